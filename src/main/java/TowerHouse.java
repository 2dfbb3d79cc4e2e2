import java.util.Arrays;

/** A storey of a tower house, from its plan to a fire in it; shared/DOC.md says what each call does. */
public final class TowerHouse {
    public static final int NONE = -1;
    public static final int NO = -2;
    public static final long UNKNOWN = 1000000000000L;

    private static final int MOST_ROOMS = 40;
    private static final int MOST_FINDINGS = 60;
    private static final int MOST_DAY = 1000000;
    private static final int MOST_MINUTE = 1000000;
    private static final int MOST_TIME = 6000;
    private static final int BIT_TIMES_A_SECOND = 30;
    private static final int DAY_MINUTES = 1440;

    private final Plan plan;
    private final Finding finding;
    private final PermitText permitText;
    private final Permits permits;
    private final Storey storey;
    private final Access access;
    private final MatrixText matrixText;
    private final Matrix matrix;
    private final Program program;
    private final Bus bus;
    private final Lifts lifts;
    private boolean built;
    private int time;

    public TowerHouse() {
        plan = new Plan();
        finding = new Finding(plan);
        permitText = new PermitText();
        permits = new Permits();
        storey = new Storey(plan, finding);
        access = new Access(plan, finding, storey);
        matrixText = new MatrixText();
        program = new Program();
        bus = new Bus(program);
        matrix = new Matrix(program, bus);
        lifts = new Lifts();
    }

    // ---- 1 the plan

    public int line(int x0, int y0, int x1, int y1) throws IllegalArgumentException, IllegalStateException {
        needArgument(isOnPlan(x0, y0) && isOnPlan(x1, y1));
        needArgument((x0 == x1) != (y0 == y1));
        needState(!built && plan.lines < Plan.MOST_LINES);
        int number = plan.addLine(x0, y0, x1, y1);
        if (number != NONE) {
            finding.isCurrent = false;
        }
        return number;
    }

    public boolean move(int line, int dx, int dy) throws IllegalArgumentException, IllegalStateException {
        needArgument(isLine(line) && plan.staysOnPlan(line, dx, dy));
        needState(!built);
        boolean moved = plan.moveLine(line, dx, dy);
        if (moved) {
            finding.isCurrent = false;
        }
        return moved;
    }

    public int door(int line, int from, int to, int rate) throws IllegalArgumentException, IllegalStateException {
        needArgument(isLine(line) && isWithin(rate, 1, 5));
        needArgument(from >= 0 && from < to && to <= plan.lengthOf(line));
        needState(!built && plan.doors[line] < Plan.MOST_DOORS);
        return plan.addDoor(line, from, to, rate);
    }

    public int find() throws IllegalStateException {
        needState(!built && finding.findings < MOST_FINDINGS);
        return finding.findSpaces();
    }

    public int count(int what) throws IllegalArgumentException, IllegalStateException {
        needArgument(isWithin(what, 0, 3));
        needState(finding.isCurrent);
        switch (what) {
            case 0:
                return finding.spaces;
            case 1:
                return finding.countPoints();
            case 2:
                return finding.countPieces();
            default:
                return finding.countOutsideSides();
        }
    }

    public int sides(int space, int ring) throws IllegalArgumentException, IllegalStateException {
        needArgument(isSpace(space) && ring >= 0);
        needState(finding.isCurrent);
        return finding.sidesOf(space, ring);
    }

    public int side(int space, int ring, int k, int what) throws IllegalArgumentException, IllegalStateException {
        needArgument(isSpace(space) && ring >= 0 && k >= 0 && k < finding.sidesOf(space, ring) && isWithin(what, 0, 5));
        needState(finding.isCurrent);
        return finding.sideOf(space, ring, k, what);
    }

    public int size(int space, int what) throws IllegalArgumentException, IllegalStateException {
        needArgument(isSpace(space) && isWithin(what, 0, 2));
        needState(finding.isCurrent);
        return finding.measureOf(space, what);
    }

    public int at(int x, int y) throws IllegalArgumentException, IllegalStateException {
        needArgument(isCell(x, y));
        needState(finding.isCurrent);
        return finding.spaceAt(x, y);
    }

    public int between(int space, int other) throws IllegalArgumentException, IllegalStateException {
        needArgument(isSpace(space) && isSpaceOrOutside(other));
        needState(finding.isCurrent);
        return finding.lengthBetween(space, other);
    }

    public int way(int space, int to) throws IllegalArgumentException, IllegalStateException {
        needArgument(isSpaceOrOutside(space) && isSpaceOrOutside(to));
        needState(finding.isCurrent);
        return finding.doorsOnWay(space, to);
    }

    public int name(int space, int name) throws IllegalArgumentException, IllegalStateException {
        needArgument(isSpace(space) && isWithin(name, 0, 1000));
        needState(finding.isCurrent && !built);
        int before = finding.names[space];
        finding.names[space] = name;
        return before;
    }

    public int nameOf(int space) throws IllegalArgumentException, IllegalStateException {
        needArgument(isSpace(space));
        needState(finding.isCurrent);
        return finding.names[space];
    }

    // ---- 2 permits

    public int say(long word) throws IllegalArgumentException, IllegalStateException {
        needArgument(PermitText.isSayable(word));
        needState(permitText.hasRoomFor(word));
        return permitText.append(word);
    }

    public int trim(int n) throws IllegalArgumentException {
        needArgument(n >= 0 && n <= permitText.length);
        permitText.length -= n;
        return permitText.length;
    }

    public int rules() {
        if (!permitText.readRules()) {
            return -1 - permitText.wrongPlace();
        }
        permits.takeRules(permitText);
        permitText.length = 0;
        return permits.rules;
    }

    public long fact(long name, int value) throws IllegalArgumentException, IllegalStateException {
        needArgument(Permits.isFactName(name) && isWithin(value, -1000000000, 1000000000));
        needState(permits.hasRoomForFact(name));
        return permits.setFact(name, value);
    }

    public int measure(int space, int what, long name) throws IllegalArgumentException, IllegalStateException {
        needArgument(isSpace(space) && isWithin(what, 0, 2) && Permits.isFactName(name));
        needState(finding.isCurrent && permits.hasRoomForFact(name));
        int value = finding.measureOf(space, what);
        permits.setFact(name, value);
        return value;
    }

    public int check(int day) throws IllegalArgumentException {
        needArgument(isWithin(day, 0, MOST_DAY));
        permits.askAll(day);
        return permits.countBroken();
    }

    public long rule(int rule, int what) throws IllegalArgumentException, IllegalStateException {
        needArgument(isWithin(rule, 0, permits.rules - 1) && isWithin(what, 0, 6));
        needState(permits.isAsked);
        return permits.answerOf(rule, what);
    }

    // ---- 3 what is built

    public int build(int day) throws IllegalArgumentException, IllegalStateException {
        needArgument(isWithin(day, 0, MOST_DAY));
        needState(!built && finding.isCurrent && isWithin(finding.spaces, 1, MOST_ROOMS));
        permits.askAll(day);
        int refusing = permits.firstRefusing();
        if (refusing != NONE) {
            return -1 - refusing;
        }
        built = true;
        storey.numberCells();
        access.findPortals();
        matrix.points = finding.spaces + Matrix.SWITCHES;
        return access.portals;
    }

    public int portal(int portal, int what) throws IllegalArgumentException, IllegalStateException {
        needArgument(isPortal(portal) && isWithin(what, 0, 5));
        needState(built);
        return access.factOf(portal, what);
    }

    public int person(int group, int pace) throws IllegalArgumentException, IllegalStateException {
        needArgument(isWithin(group, 0, 9) && isWithin(pace, 1, 5));
        needState(built && storey.persons < Storey.MOST_PERSONS);
        return storey.addPerson(group, pace);
    }

    public int card(int person, int until) throws IllegalArgumentException, IllegalStateException {
        needArgument(isPerson(person) && isWithin(until, 0, MOST_MINUTE));
        needState(built && access.cards < Access.MOST_CARDS);
        return access.addCard(person, until);
    }

    public int right(int group, int zone, int from, int to, int since) throws IllegalArgumentException, IllegalStateException {
        needArgument(isWithin(group, 0, 9) && isWithin(zone, 0, 9) && isWithin(since, 0, MOST_MINUTE));
        needArgument(isWithin(from, 0, DAY_MINUTES - 1) && isWithin(to, 0, DAY_MINUTES - 1));
        needState(built && access.rights < Access.MOST_RIGHTS);
        return access.addRight(group, zone, from, to, since);
    }

    public int end(int right, int minute) throws IllegalArgumentException, IllegalStateException {
        needArgument(isWithin(right, 0, access.rights - 1) && isWithin(minute, 0, MOST_MINUTE));
        needState(built);
        return access.tellEnd(right, minute);
    }

    public int lost(int card, int minute) throws IllegalArgumentException, IllegalStateException {
        needArgument(isCard(card) && isWithin(minute, 0, MOST_MINUTE));
        needState(built);
        return access.tellLost(card, minute);
    }

    public boolean two(int portal, boolean on) throws IllegalArgumentException, IllegalStateException {
        needArgument(isPortal(portal));
        needState(built);
        return access.setTwo(portal, on);
    }

    public boolean airlock(int a, int b, boolean on) throws IllegalArgumentException, IllegalStateException {
        needArgument(isPortal(a) && isPortal(b) && a != b);
        needState(built);
        return access.setAirlock(a, b, on);
    }

    public int stands(int portal, boolean open) throws IllegalArgumentException, IllegalStateException {
        needArgument(isPortal(portal));
        needState(built);
        return access.setOpen(portal, open, time);
    }

    public int off(int portal, boolean on) throws IllegalArgumentException, IllegalStateException {
        needArgument(isPortal(portal));
        needState(built);
        return on ? access.goOff(portal) : access.joinAgain(portal, time);
    }

    public int ask(int card, int portal, int room) throws IllegalArgumentException, IllegalStateException {
        needArgument(isCard(card) && isPortal(portal) && access.isRoomOf(portal, room));
        needState(built && access.hasRoomForRows(portal, 1));
        access.setMoment(time, isReleased());
        return access.askOne(card, portal, room);
    }

    public int both(int cardA, int cardB, int portal, int room) throws IllegalArgumentException, IllegalStateException {
        needArgument(isCard(cardA) && isCard(cardB) && cardA != cardB);
        needArgument(isPortal(portal) && access.isRoomOf(portal, room));
        needState(built && access.hasRoomForRows(portal, 2));
        access.setMoment(time, isReleased());
        return access.askTwo(cardA, cardB, portal, room);
    }

    public int where(int person, int what) throws IllegalArgumentException, IllegalStateException {
        needArgument(isPerson(person) && isWithin(what, 0, 5));
        needState(built);
        return storey.personFact(person, what);
    }

    public int inside(int zone) throws IllegalArgumentException, IllegalStateException {
        needArgument(isWithin(zone, 0, 9));
        needState(built);
        return storey.countInZone(zone);
    }

    public int against(int k, int what) throws IllegalArgumentException, IllegalStateException {
        needArgument(isWithin(what, 0, 4) && (what == 0 || isWithin(k, 0, access.keptAgainst() - 1)));
        needState(built);
        return what == 0 ? access.againstRows : access.againstFact(k, what);
    }

    // ---- 4 the matrix

    public int unit(int c) throws IllegalArgumentException, IllegalStateException {
        needArgument(isWithin(c, 0, 127));
        needState(built && matrixText.length < MatrixText.MOST_CHARACTERS);
        return matrixText.append(c);
    }

    public int sentence(int which, int a, int b, int c, int d) throws IllegalArgumentException, IllegalStateException {
        needArgument(isWithin(which, 0, 4) && areSentenceNumbers(which, a, b, c, d));
        int length = matrixText.writeSentence(which, a, b, c, d);
        needState(built && length <= MatrixText.MOST_CHARACTERS);
        matrixText.length = length;
        return length;
    }

    public int cutText(int n) throws IllegalArgumentException, IllegalStateException {
        needArgument(n >= 0 && n <= matrixText.length);
        needState(built);
        matrixText.length -= n;
        return matrixText.length;
    }

    public int matrix() throws IllegalStateException {
        needState(built);
        if (!matrixText.readSentences(matrix.points)) {
            return -1 - matrixText.word;
        }
        matrix.takeTables(matrixText);
        return matrix.rowCount;
    }

    public int signal(int point, int v) throws IllegalArgumentException, IllegalStateException {
        needArgument(isWithin(point, 0, matrix.points - 1) && isWithin(v, 0, 100));
        needState(built);
        int before = matrix.values[point];
        matrix.values[point] = v;
        return before;
    }

    public boolean fault(int point, boolean on) throws IllegalArgumentException, IllegalStateException {
        needArgument(isWithin(point, 0, matrix.points - 1));
        needState(built);
        boolean before = matrix.isFaulty[point];
        matrix.isFaulty[point] = on;
        return before;
    }

    public int disable(int point, int until) throws IllegalArgumentException, IllegalStateException {
        needArgument(isWithin(point, 0, matrix.points - 1) && isWithin(until, 0, 1000000));
        needState(built);
        int before = matrix.disabledUntil[point];
        matrix.disabledUntil[point] = until;
        return before;
    }

    public int attend(int what) throws IllegalArgumentException, IllegalStateException {
        needArgument(isWithin(what, 0, 1));
        needState(built);
        return what == 0 ? matrix.lookAtActs(time) : matrix.confirmActs();
    }

    public int reset() throws IllegalStateException {
        needState(built);
        return matrix.resetLatched(time);
    }

    public int act(int act, int what) throws IllegalArgumentException, IllegalStateException {
        needArgument(matrix.isAct(act) && isWithin(what, 0, 5));
        needState(built);
        return matrix.actFact(act, what);
    }

    public int zone(int zone, int what) throws IllegalArgumentException, IllegalStateException {
        needArgument(matrix.isZone(zone) && isWithin(what, 0, 3));
        needState(built);
        return matrix.zoneFact(zone, what, time);
    }

    public int event(int k, int what) throws IllegalArgumentException, IllegalStateException {
        needArgument(isWithin(k, 0, matrix.keptEvents() - 1) && isWithin(what, 0, 2));
        needState(built);
        return matrix.eventFact(k, what);
    }

    // ---- 5 the program

    public int block(int kind) throws IllegalArgumentException, IllegalStateException {
        needArgument(isWithin(kind, 0, Program.KINDS - 1));
        needState(built && program.blocks < Program.MOST_BLOCKS);
        return program.addBlock(kind);
    }

    public int wire(int block, int input, int to) throws IllegalArgumentException, IllegalStateException {
        needArgument(isBlock(block) && isWithin(input, 0, 2) && (to == NONE || isBlock(to)));
        needState(built);
        return program.setInput(block, input, to);
    }

    public void numbers(int block, int p, int q) throws IllegalArgumentException, IllegalStateException {
        needArgument(isBlock(block));
        needState(built);
        program.p[block] = p;
        program.q[block] = q;
    }

    public int row(int block, int k, int v) throws IllegalArgumentException, IllegalStateException {
        needArgument(isBlock(block) && isWithin(k, 0, Program.ROW_NUMBERS - 1));
        needState(built && program.kinds[block] == Program.ROW);
        int before = program.rowNumbers[block][k];
        program.rowNumbers[block][k] = v;
        return before;
    }

    public int safe(int block, int v) throws IllegalArgumentException, IllegalStateException {
        needArgument(isBlock(block));
        needState(built);
        int before = program.safes[block];
        program.safes[block] = v;
        return before;
    }

    public boolean hand(int block, boolean on, int v) throws IllegalArgumentException, IllegalStateException {
        needArgument(isBlock(block));
        needState(built);
        boolean before = program.isInHand[block];
        program.isInHand[block] = on;
        program.handValues[block] = v;
        return before;
    }

    public int bind(int block, int to) throws IllegalArgumentException, IllegalStateException {
        needArgument(isBlock(block) && isWithin(to, NONE, Matrix.SWITCHES - 1));
        needState(built);
        int before = program.boundTo[block];
        program.boundTo[block] = to;
        return before;
    }

    public int point(int point, int v) throws IllegalArgumentException, IllegalStateException {
        needArgument(isWithin(point, 4, Program.POINTS - 1));
        needState(built);
        int before = program.points[point];
        program.points[point] = v;
        return before;
    }

    public int pointAt(int point) throws IllegalArgumentException, IllegalStateException {
        needArgument(isWithin(point, 0, Program.POINTS - 1));
        needState(built);
        return program.points[point];
    }

    public int order() throws IllegalStateException {
        needState(built);
        program.sortBlocks();
        return program.ordered;
    }

    public int out(int block, int what) throws IllegalArgumentException, IllegalStateException {
        needArgument(isBlock(block) && isWithin(what, 0, 3));
        needState(built);
        return program.blockFact(block, what);
    }

    public int failed(int kind) throws IllegalArgumentException, IllegalStateException {
        needArgument(isWithin(kind, 0, 3));
        needState(built);
        return program.failures[kind];
    }

    // ---- 6 the bus

    public int address(int station, int address) throws IllegalArgumentException, IllegalStateException {
        needArgument(isStation(station) && isWithin(address, 0, 65535));
        needState(built);
        return bus.setAddress(station, address);
    }

    public boolean listen(int station, int group, boolean on) throws IllegalArgumentException, IllegalStateException {
        needArgument(isStation(station) && isWithin(group, 0, 255));
        needState(built);
        return bus.setListening(station, group, on);
    }

    public boolean busy(int station, boolean on) throws IllegalArgumentException, IllegalStateException {
        needArgument(isStation(station));
        needState(built);
        return bus.setBusy(station, on);
    }

    public int send(int station, int priority, int aim, boolean group, int n, int b) throws IllegalArgumentException, IllegalStateException {
        needArgument(isStation(station) && isWithin(priority, 0, 3) && isWithin(aim, 0, group ? 255 : 65535));
        needArgument(isWithin(n, 1, Bus.MOST_DATA) && isWithin(b, 0, 255));
        needState(built && bus.hasRoomInQueue(station));
        return bus.enqueue(station, priority, aim, group, n, b);
    }

    public boolean disturb(int behind) throws IllegalArgumentException, IllegalStateException {
        needArgument(isWithin(behind, 1, Bus.MOST_BEHIND));
        needState(built && bus.disturbances < Bus.MOST_DISTURBANCES);
        return bus.addDisturbance(behind);
    }

    public int station(int station, int what) throws IllegalArgumentException, IllegalStateException {
        needArgument(isStation(station) && isWithin(what, 0, 5));
        needState(built);
        return bus.stationFact(station, what);
    }

    public int heard(int what) throws IllegalArgumentException, IllegalStateException {
        needArgument(isWithin(what, 0, 4));
        needState(built);
        return bus.counts[what];
    }

    public int byteAt(int i) throws IllegalArgumentException, IllegalStateException {
        needArgument(isWithin(i, -1, bus.latestLength - 1));
        needState(built);
        return i == -1 ? bus.answer : bus.latest[i];
    }

    // ---- 7 lifts

    public int car(int floor, int speed) throws IllegalArgumentException, IllegalStateException {
        needArgument(isFloor(floor) && isWithin(speed, 1, 5));
        needState(built && lifts.cars < Lifts.MOST_CARS);
        return lifts.addCar(floor, speed);
    }

    public void free(int car, int floor, int second) throws IllegalArgumentException, IllegalStateException {
        needArgument(isCar(car) && isFloor(floor) && isWithin(second, 0, 100000));
        needState(built);
        lifts.setFree(car, floor, second);
    }

    public void span(int car, int least, int greatest) throws IllegalArgumentException, IllegalStateException {
        needArgument(isCar(car) && isFloor(least) && isFloor(greatest) && least <= greatest);
        needState(built);
        lifts.setSpan(car, least, greatest);
    }

    public int call(int from, int to) throws IllegalArgumentException, IllegalStateException {
        needArgument(isFloor(from) && isFloor(to) && from != to);
        needState(built && lifts.opens < Lifts.MOST_OPEN && lifts.calls < Lifts.MOST_CALLS);
        return lifts.addCall(from, to, time);
    }

    public boolean begin(int call, int car) throws IllegalArgumentException, IllegalStateException {
        needArgument(lifts.isOpenCall(call) && (car == NONE || isCar(car)));
        needState(built);
        return lifts.setBegun(call, car);
    }

    public void done(int call) throws IllegalArgumentException, IllegalStateException {
        needArgument(lifts.isOpenCall(call));
        needState(built);
        lifts.closeCall(call);
    }

    public long give() throws IllegalStateException {
        needState(built);
        return lifts.makeGiving(time, isHome());
    }

    public int given(int call, int what) throws IllegalArgumentException, IllegalStateException {
        needArgument(isWithin(call, 0, lifts.calls - 1) && isWithin(what, 0, 3));
        needState(built);
        return lifts.giving[call][what];
    }

    // ---- 8 smoke, escape, time

    public boolean fire(int x, int y) throws IllegalArgumentException, IllegalStateException {
        needArgument(isCell(x, y));
        needState(built);
        return storey.addSmoke(Finding.cellNumber(x, y));
    }

    public int cell(int x, int y, int what) throws IllegalArgumentException, IllegalStateException {
        needArgument(isCell(x, y) && isWithin(what, 0, 2));
        needState(built);
        return storey.cellFact(Finding.cellNumber(x, y), what);
    }

    public int pass(int n) throws IllegalArgumentException, IllegalStateException {
        needArgument(isWithin(n, 1, 60));
        needState(built && time + n <= MOST_TIME);
        for (int k = 0; k < n; k++) {
            passSecond();
        }
        return time;
    }

    public int told(int what) throws IllegalArgumentException, IllegalStateException {
        needArgument(isWithin(what, 0, 8));
        needState(built);
        switch (what) {
            case 0:
                return access.portals;
            case 1:
                return storey.countFreeInside();
            case 2:
                return matrix.countDone();
            case 3:
                return storey.smoky;
            case 4:
                return lifts.opens;
            case 5:
                return isReleased() ? 1 : 0;
            case 6:
                return isHome() ? 1 : 0;
            case 7:
                return doPersonsLeave() ? 1 : 0;
            default:
                return time;
        }
    }

    private void passSecond() {
        time++;
        storey.spreadSmoke(time);
        for (int room = 0; room < finding.spaces && room < MOST_ROOMS; room++) {
            matrix.values[room] = Math.min(10 * storey.smokeInRoom[room], 100);
        }
        for (int block = 0; block < program.blocks; block++) {
            matrix.setSwitch(program.boundTo[block], program.outputs[block]);
        }
        matrix.runActs(time);
        program.points[0] = storey.countFreeInside();
        program.points[1] = matrix.countDone();
        program.points[2] = storey.smoky;
        program.points[3] = lifts.opens;
        program.reckonBlocks(time / 60 % DAY_MINUTES);
        for (int k = 0; k < BIT_TIMES_A_SECOND; k++) {
            bus.runBitTime();
        }
        storey.catchPersons(time);
        if (doPersonsLeave()) {
            storey.movePersons(time);
        }
    }

    private boolean isReleased() {
        return matrix.isKindDone(0);
    }

    private boolean isHome() {
        return matrix.isKindDone(1);
    }

    private boolean doPersonsLeave() {
        return matrix.isKindDone(4);
    }

    private static boolean areSentenceNumbers(int which, int a, int b, int c, int d) {
        boolean fine = isSentenceNumber(a);
        if (which != 4) {
            fine = fine && isSentenceNumber(b);
        }
        if (which == 0 || which == 1 || which == 3) {
            fine = fine && isSentenceNumber(c);
        }
        if (which == 0) {
            fine = fine && isWithin(d, 1, MatrixText.MOST_ZONE_POINTS);
        }
        if (which == 1) {
            fine = fine && isSentenceNumber(d);
        }
        return fine;
    }

    private static boolean isSentenceNumber(int v) {
        return isWithin(v, 0, 9999);
    }

    private static boolean isWithin(int v, int least, int greatest) {
        return v >= least && v <= greatest;
    }

    private static boolean isOnPlan(int x, int y) {
        return isWithin(x, 0, Finding.EDGE) && isWithin(y, 0, Finding.EDGE);
    }

    private static boolean isCell(int x, int y) {
        return isWithin(x, 0, Finding.EDGE - 1) && isWithin(y, 0, Finding.EDGE - 1);
    }

    private static boolean isFloor(int floor) {
        return isWithin(floor, 0, 59);
    }

    private static boolean isStation(int station) {
        return isWithin(station, 0, Bus.STATIONS - 1);
    }

    private boolean isLine(int line) {
        return isWithin(line, 0, plan.lines - 1);
    }

    private boolean isSpace(int space) {
        return isWithin(space, 0, finding.spaces - 1);
    }

    /** Before the first finding there is no outside either. */
    private boolean isSpaceOrOutside(int space) {
        return isSpace(space) || space == NONE && finding.findings > 0;
    }

    private boolean isPortal(int portal) {
        return isWithin(portal, 0, access.portals - 1);
    }

    private boolean isPerson(int person) {
        return isWithin(person, 0, storey.persons - 1);
    }

    private boolean isCard(int card) {
        return isWithin(card, 0, access.cards - 1);
    }

    private boolean isBlock(int block) {
        return isWithin(block, 0, program.blocks - 1);
    }

    private boolean isCar(int car) {
        return isWithin(car, 0, lifts.cars - 1);
    }

    private static void needArgument(boolean fine) {
        if (!fine) {
            throw new IllegalArgumentException("a number is out of its bounds, or there is no such thing");
        }
    }

    private static void needState(boolean fine) {
        if (!fine) {
            throw new IllegalStateException("the house is not as it must be");
        }
    }

    /** The lines of the plan, each kept with its low end first, and their doors. */
    private static final class Plan {
        static final int MOST_LINES = 20;
        static final int MOST_DOORS = 6;

        private int lines;
        private final int[][] ends = new int[MOST_LINES][4];
        private final int[] doors = new int[MOST_LINES];
        private final int[][] doorParts = new int[MOST_LINES][3 * MOST_DOORS];

        int addLine(int x0, int y0, int x1, int y1) {
            int lowX = Math.min(x0, x1);
            int lowY = Math.min(y0, y1);
            int highX = Math.max(x0, x1);
            int highY = Math.max(y0, y1);
            if (lines >= MOST_LINES || liesAlong(NONE, lowX, lowY, highX, highY)) {
                return NONE;
            }
            setEnds(lines, lowX, lowY, highX, highY);
            lines++;
            return lines - 1;
        }

        boolean moveLine(int line, int dx, int dy) {
            int[] e = ends[line];
            if (liesAlong(line, e[0] + dx, e[1] + dy, e[2] + dx, e[3] + dy)) {
                return false;
            }
            setEnds(line, e[0] + dx, e[1] + dy, e[2] + dx, e[3] + dy);
            return true;
        }

        /** In 64 bits, as the way of a move has no bounds of its own. */
        boolean staysOnPlan(int line, int dx, int dy) {
            int[] e = ends[line];
            return (long) e[0] + dx >= 0 && (long) e[2] + dx <= Finding.EDGE
                && (long) e[1] + dy >= 0 && (long) e[3] + dy <= Finding.EDGE;
        }

        int addDoor(int line, int from, int to, int rate) {
            if (doors[line] < MOST_DOORS) {
                int at = 3 * doors[line];
                doorParts[line][at] = from;
                doorParts[line][at + 1] = to;
                doorParts[line][at + 2] = rate;
                doors[line]++;
            }
            return doors[line];
        }

        boolean isLevel(int line) {
            return ends[line][1] == ends[line][3];
        }

        int lengthOf(int line) {
            int[] e = ends[line];
            return e[2] - e[0] + e[3] - e[1];
        }

        /** How far the unit of a line that begins at a point is from the line's low end. */
        int distanceTo(int line, int x, int y) {
            return x - ends[line][0] + y - ends[line][1];
        }

        boolean hasDoorAt(int line, int distance) {
            for (int door = 0; door < doors[line]; door++) {
                if (isDoorAt(line, door, distance)) {
                    return true;
                }
            }
            return false;
        }

        boolean isDoorAt(int line, int door, int distance) {
            return fromOf(line, door) <= distance && distance < toOf(line, door);
        }

        int fromOf(int line, int door) {
            return doorParts[line][3 * door];
        }

        int toOf(int line, int door) {
            return doorParts[line][3 * door + 1];
        }

        int rateOf(int line, int door) {
            return doorParts[line][3 * door + 2];
        }

        private void setEnds(int line, int lowX, int lowY, int highX, int highY) {
            int[] e = ends[line];
            e[0] = lowX;
            e[1] = lowY;
            e[2] = highX;
            e[3] = highY;
        }

        private boolean liesAlong(int except, int lowX, int lowY, int highX, int highY) {
            for (int k = 0; k < lines; k++) {
                int[] e = ends[k];
                boolean level = lowY == highY && e[1] == e[3] && lowY == e[1];
                boolean upright = lowX == highX && e[0] == e[2] && lowX == e[0];
                if (k != except && level && Math.max(lowX, e[0]) < Math.min(highX, e[2])) {
                    return true;
                }
                if (k != except && upright && Math.max(lowY, e[1]) < Math.min(highY, e[3])) {
                    return true;
                }
            }
            return false;
        }
    }

    /**
     * The latest finding. All lines go from whole points to whole points, so a space is a set of cells, and its least
     * point is the low corner of its least cell.
     */
    private static final class Finding {
        static final int EDGE = 24;
        static final int CELLS = EDGE * EDGE;
        private static final int ACROSS = EDGE + 1;
        private static final int PLACES = ACROSS * ACROSS;
        // At the least point of a space a level line meets an upright one: 10 by 10 of them meet at most.
        private static final int MOST_SPACES = 100;
        // Of 20 lines, k level ones: (21 - k) pieces of these at most, k + 1 of the others; each has two sides.
        private static final int MOST_SIDES = 440;
        private static final int MOST_RINGS = 220;
        private static final int UNSEEN = -3;
        // Sides go to the right, up, to the left, down.
        private static final int[] SIDE_X = {1, 0, -1, 0};
        private static final int[] SIDE_Y = {0, 1, 0, -1};
        private static final int[] TURNS = {1, 0, 3, 2};

        private final Plan plan;
        private int findings;
        private boolean isCurrent;
        private int spaces;
        private final int[][] walls = new int[2][PLACES];
        private final boolean[] isPoint = new boolean[PLACES];
        private int[] owner = new int[CELLS];
        private int[] ownerBefore = new int[CELLS];
        private int[] names = new int[MOST_SPACES];
        private int[] namesBefore = new int[MOST_SPACES];
        private final int[] areas = new int[MOST_SPACES];
        private final int[] edges = new int[MOST_SPACES];
        private int rings;
        private final int[][] ringTable = new int[MOST_RINGS][3];
        private int sideCount;
        private final int[][] sideTable = new int[MOST_SIDES][6];
        private final boolean[] isGone = new boolean[4 * PLACES];
        private final int[] work = new int[CELLS];
        private final int[] shares = new int[MOST_SPACES];

        Finding(Plan plan) {
            this.plan = plan;
        }

        static int cellNumber(int x, int y) {
            return x * EDGE + y;
        }

        int findSpaces() {
            int spacesBefore = spaces;
            swapBefore();
            drawWalls();
            markPoints();
            fillSpaces();
            traceRings();
            giveNamesOn(spacesBefore);
            findings++;
            isCurrent = true;
            return spaces;
        }

        private void swapBefore() {
            int[] cells = ownerBefore;
            ownerBefore = owner;
            owner = cells;
            int[] given = namesBefore;
            namesBefore = names;
            names = given;
        }

        private void drawWalls() {
            Arrays.fill(walls[0], NONE);
            Arrays.fill(walls[1], NONE);
            for (int line = 0; line < plan.lines; line++) {
                boolean level = plan.isLevel(line);
                int at = plan.ends[line][0] * ACROSS + plan.ends[line][1];
                int length = plan.lengthOf(line);
                for (int k = 0; k < length; k++) {
                    walls[level ? 0 : 1][at + k * (level ? ACROSS : 1)] = line;
                }
            }
        }

        private void markPoints() {
            for (int x = 0; x <= EDGE; x++) {
                for (int y = 0; y <= EDGE; y++) {
                    boolean level = wallFrom(x, y, 0) != NONE || wallFrom(x, y, 2) != NONE;
                    boolean upright = wallFrom(x, y, 1) != NONE || wallFrom(x, y, 3) != NONE;
                    isPoint[x * ACROSS + y] = level && upright;
                }
            }
            for (int line = 0; line < plan.lines; line++) {
                int[] e = plan.ends[line];
                isPoint[e[0] * ACROSS + e[1]] = true;
                isPoint[e[2] * ACROSS + e[3]] = true;
            }
        }

        /** The line of the unit that goes from a point in a direction. */
        private int wallFrom(int x, int y, int direction) {
            switch (direction) {
                case 0:
                    return x < EDGE ? walls[0][x * ACROSS + y] : NONE;
                case 1:
                    return y < EDGE ? walls[1][x * ACROSS + y] : NONE;
                case 2:
                    return x > 0 ? walls[0][(x - 1) * ACROSS + y] : NONE;
                default:
                    return y > 0 ? walls[1][x * ACROSS + y - 1] : NONE;
            }
        }

        private void fillSpaces() {
            Arrays.fill(owner, UNSEEN);
            for (int k = 0; k < EDGE; k++) {
                fillFromEdge(cellNumber(EDGE - 1, k), 0);
                fillFromEdge(cellNumber(0, k), 1);
                fillFromEdge(cellNumber(k, EDGE - 1), 2);
                fillFromEdge(cellNumber(k, 0), 3);
            }
            spaces = 0;
            for (int cell = 0; cell < CELLS; cell++) {
                if (owner[cell] == UNSEEN && spaces < MOST_SPACES) {
                    areas[spaces] = fill(cell, spaces);
                    spaces++;
                }
            }
        }

        private void fillFromEdge(int cell, int direction) {
            if (owner[cell] == UNSEEN && wallBeside(cell, direction) == NONE) {
                fill(cell, NONE);
            }
        }

        /** Gives a cell and all that are joined to it to a space: how many. */
        private int fill(int first, int space) {
            int filled = 1;
            owner[first] = space;
            work[0] = first;
            for (int k = 0; k < filled; k++) {
                for (int direction = 0; direction < 4; direction++) {
                    int next = cellBeside(work[k], direction);
                    boolean isOpen = next != NONE && wallBeside(work[k], direction) == NONE;
                    if (isOpen && owner[next] == UNSEEN && filled < CELLS) {
                        owner[next] = space;
                        work[filled] = next;
                        filled++;
                    }
                }
            }
            return filled;
        }

        /** The cell beside one, in the order in which persons look: (x + 1, y), (x - 1, y), (x, y + 1), (x, y - 1). */
        int cellBeside(int cell, int direction) {
            int x = cell / EDGE;
            int y = cell % EDGE;
            switch (direction) {
                case 0:
                    return x < EDGE - 1 ? cell + EDGE : NONE;
                case 1:
                    return x > 0 ? cell - EDGE : NONE;
                case 2:
                    return y < EDGE - 1 ? cell + 1 : NONE;
                default:
                    return y > 0 ? cell - 1 : NONE;
            }
        }

        /** The line between a cell and that beside it. */
        int wallBeside(int cell, int direction) {
            int at = placeBeside(cell, direction);
            return direction < 2 ? walls[1][at] : walls[0][at];
        }

        /** The low point of the border between a cell and that beside it. */
        private int placeBeside(int cell, int direction) {
            int at = cell / EDGE * ACROSS + cell % EDGE;
            if (direction == 0) {
                return at + ACROSS;
            }
            return direction == 2 ? at + 1 : at;
        }

        /** How far the border between a cell and that beside it is from the low end of the line there. */
        int distanceBeside(int cell, int direction, int line) {
            int at = placeBeside(cell, direction);
            return plan.distanceTo(line, at / ACROSS, at % ACROSS);
        }

        int spaceAt(int x, int y) {
            return x >= 0 && x < EDGE && y >= 0 && y < EDGE ? owner[x * EDGE + y] : NONE;
        }

        private int leftOf(int x, int y, int direction) {
            return spaceAt(direction == 1 || direction == 2 ? x - 1 : x, direction >= 2 ? y - 1 : y);
        }

        private int rightOf(int x, int y, int direction) {
            return spaceAt(direction >= 2 ? x - 1 : x, direction == 0 || direction == 3 ? y - 1 : y);
        }

        /** Points are met in their order, so a ring is met first at its least point, and rings in their order. */
        private void traceRings() {
            rings = 0;
            sideCount = 0;
            for (int k = 0; k < isGone.length; k++) {
                isGone[k] = false;
            }
            Arrays.fill(edges, 0);
            for (int at = 0; at < PLACES; at++) {
                for (int direction = 0; direction < 4; direction++) {
                    boolean isSide = isPoint[at] && wallFrom(at / ACROSS, at % ACROSS, direction) != NONE;
                    if (isSide && !isGone[4 * at + direction] && rings < MOST_RINGS) {
                        traceRing(at, direction);
                    }
                }
            }
        }

        private void traceRing(int start, int firstDirection) {
            int x = start / ACROSS;
            int y = start % ACROSS;
            int direction = firstDirection;
            int space = leftOf(x, y, direction);
            int first = sideCount;
            int length = 0;
            for (int k = 0; k < MOST_SIDES && !isGone[4 * (x * ACROSS + y) + direction]; k++) {
                isGone[4 * (x * ACROSS + y) + direction] = true;
                int run = pieceLength(x, y, direction);
                noteSide(x, y, direction, run);
                length += run;
                x += run * SIDE_X[direction];
                y += run * SIDE_Y[direction];
                direction = turnAt(x, y, direction);
            }
            int[] ring = ringTable[rings];
            ring[0] = space;
            ring[1] = first;
            ring[2] = sideCount - first;
            rings++;
            if (space >= 0) {
                edges[space] += length;
            }
        }

        private int pieceLength(int x, int y, int direction) {
            int length = 1;
            for (int k = 1; k < EDGE && wallFrom(x, y, direction) != NONE; k++) {
                x += SIDE_X[direction];
                y += SIDE_Y[direction];
                if (isPoint[x * ACROSS + y]) {
                    return length;
                }
                length++;
            }
            return length;
        }

        private void noteSide(int x, int y, int direction, int length) {
            if (sideCount < MOST_SIDES) {
                int[] side = sideTable[sideCount];
                side[0] = wallFrom(x, y, direction);
                side[1] = x;
                side[2] = y;
                side[3] = x + length * SIDE_X[direction];
                side[4] = y + length * SIDE_Y[direction];
                side[5] = rightOf(x, y, direction);
                sideCount++;
            }
        }

        /** The direction of the first piece of those to the left, straight on, to the right, and back. */
        private int turnAt(int x, int y, int direction) {
            for (int k = 0; k < TURNS.length; k++) {
                int next = (direction + TURNS[k]) % 4;
                if (wallFrom(x, y, next) != NONE) {
                    return next;
                }
            }
            return direction;
        }

        private void giveNamesOn(int spacesBefore) {
            Arrays.fill(names, 0);
            Arrays.fill(shares, 0);
            for (int old = 0; old < spacesBefore; old++) {
                if (namesBefore[old] != 0) {
                    giveNameOn(old);
                }
            }
        }

        private void giveNameOn(int old) {
            Arrays.fill(work, 0, MOST_SPACES, 0);
            for (int cell = 0; cell < CELLS; cell++) {
                if (ownerBefore[cell] == old && owner[cell] >= 0) {
                    work[owner[cell]]++;
                }
            }
            int heir = 0;
            for (int space = 1; space < spaces; space++) {
                if (work[space] > work[heir]) {
                    heir = space;
                }
            }
            if (work[heir] > shares[heir]) {
                shares[heir] = work[heir];
                names[heir] = namesBefore[old];
            }
        }

        int countPoints() {
            int points = 0;
            for (int at = 0; at < PLACES; at++) {
                points += isPoint[at] ? 1 : 0;
            }
            return points;
        }

        /** Each piece is two sides. */
        int countPieces() {
            return sideCount / 2;
        }

        int countOutsideSides() {
            int all = 0;
            for (int k = 0; k < rings; k++) {
                all += ringTable[k][0] == NONE ? ringTable[k][2] : 0;
            }
            return all;
        }

        int sidesOf(int space, int ring) {
            int found = findRing(space, ring);
            return found == NONE ? 0 : ringTable[found][2];
        }

        int sideOf(int space, int ring, int k, int what) {
            int found = findRing(space, ring);
            return found == NONE ? NONE : sideTable[ringTable[found][1] + k][what];
        }

        private int findRing(int space, int ring) {
            int seen = 0;
            for (int k = 0; k < rings; k++) {
                if (ringTable[k][0] == space) {
                    if (seen == ring) {
                        return k;
                    }
                    seen++;
                }
            }
            return NONE;
        }

        int measureOf(int space, int what) {
            switch (what) {
                case 0:
                    return areas[space];
                case 1:
                    return edges[space];
                default:
                    return countRings(space);
            }
        }

        private int countRings(int space) {
            int all = 0;
            for (int k = 0; k < rings; k++) {
                all += ringTable[k][0] == space ? 1 : 0;
            }
            return all;
        }

        int lengthBetween(int space, int other) {
            int length = 0;
            for (int at = 0; at < PLACES; at++) {
                for (int direction = 0; direction < 2; direction++) {
                    int a = leftOf(at / ACROSS, at % ACROSS, direction);
                    int b = rightOf(at / ACROSS, at % ACROSS, direction);
                    boolean isBetween = a == space && b == other || a == other && b == space;
                    length += isBetween && walls[direction][at] != NONE ? 1 : 0;
                }
            }
            return length;
        }

        /** Goes round by round to what is one door farther; place 0 of the work is the outside. */
        int doorsOnWay(int space, int to) {
            Arrays.fill(work, 0, spaces + 1, NONE);
            work[space + 1] = 0;
            boolean isGrowing = true;
            for (int round = 0; round <= spaces && isGrowing && work[to + 1] == NONE; round++) {
                isGrowing = false;
                for (int line = 0; line < plan.lines; line++) {
                    for (int door = 0; door < plan.doors[line]; door++) {
                        isGrowing = goThrough(line, door, round) || isGrowing;
                    }
                }
            }
            return work[to + 1] == NONE ? NO : work[to + 1];
        }

        private boolean goThrough(int line, int door, int round) {
            boolean isNew = false;
            int to = plan.toOf(line, door);
            for (int distance = plan.fromOf(line, door); distance < to; distance++) {
                int a = roomLeft(line, distance) + 1;
                int b = roomRight(line, distance) + 1;
                if (work[a] == round && work[b] == NONE) {
                    work[b] = round + 1;
                    isNew = true;
                } else if (work[b] == round && work[a] == NONE) {
                    work[a] = round + 1;
                    isNew = true;
                }
            }
            return isNew;
        }

        /** What is to the left of a unit of a line, seen from the line's low end. */
        int roomLeft(int line, int distance) {
            int x = unitX(line, distance);
            int y = unitY(line, distance);
            return plan.isLevel(line) ? spaceAt(x, y) : spaceAt(x - 1, y);
        }

        int roomRight(int line, int distance) {
            int x = unitX(line, distance);
            int y = unitY(line, distance);
            return plan.isLevel(line) ? spaceAt(x, y - 1) : spaceAt(x, y);
        }

        int unitX(int line, int distance) {
            return plan.ends[line][0] + (plan.isLevel(line) ? distance : 0);
        }

        int unitY(int line, int distance) {
            return plan.ends[line][1] + (plan.isLevel(line) ? 0 : distance);
        }

        /** Whether a piece begins at a distance from a line's low end. */
        boolean isPointOn(int line, int distance) {
            return isPoint[unitX(line, distance) * ACROSS + unitY(line, distance)];
        }
    }

    /** The text of the permit rules, its words, and the reading of what it says. */
    private static final class PermitText {
        static final int MOST_WORDS = 120;
        static final int MOST_RULES = 12;
        static final int MOST_DEPTH = 8;
        // Kinds of words; a sign of one character is its own kind.
        static final int NUMBER = '0';
        static final int NAME = 'a';
        static final int AT_MOST = 'l';
        static final int AT_LEAST = 'g';
        static final int END = 'e';
        private static final int WRONG = '?';
        private static final int MOST_CHARACTERS = 800;
        private static final int MOST_DIGITS = 9;
        private static final int MOST_LETTERS = 8;
        private static final char[] SIGNS = {'+', '-', '*', '/', '(', ')', '<', '=', '>', ':', ';', '!', '@'};

        private final char[] text = new char[MOST_CHARACTERS];
        private int length;
        private final int[] kinds = new int[MOST_WORDS + 1];
        private final long[] values = new long[MOST_WORDS + 1];
        private final int[] places = new int[MOST_WORDS + 1];
        private int cursor;
        private int rules;
        private final long[] names = new long[MOST_RULES];
        private final int[] starts = new int[MOST_RULES];
        private final int[] days = new int[MOST_RULES];

        static boolean isSayable(long word) {
            for (int shift = 0; shift < 64; shift += 8) {
                long c = word >> shift & 255;
                if (c != 0 && (c < 32 || c > 126)) {
                    return false;
                }
            }
            return true;
        }

        boolean hasRoomFor(long word) {
            int more = 0;
            for (int shift = 0; shift < 64; shift += 8) {
                more += (word >> shift & 255) != 0 ? 1 : 0;
            }
            return length + more <= MOST_CHARACTERS;
        }

        int append(long word) {
            for (int shift = 56; shift >= 0; shift -= 8) {
                long c = word >> shift & 255;
                if (c != 0 && length < MOST_CHARACTERS) {
                    text[length] = (char) c;
                    length++;
                }
            }
            return length;
        }

        /** Where the word begins at which the reading stopped. */
        int wrongPlace() {
            return places[cursor];
        }

        boolean readRules() {
            splitWords();
            cursor = 0;
            rules = 0;
            for (int k = 0; k <= MOST_RULES; k++) {
                if (!readRule()) {
                    return false;
                }
                if (kinds[cursor] == END) {
                    return true;
                }
                if (!skipSign(';')) {
                    return false;
                }
                if (kinds[cursor] == END) {
                    return true;
                }
            }
            return false;
        }

        /** Behind the last word stands the END; nothing is read behind a wrong one, so the cursor stays on these. */
        private void splitWords() {
            int place = 0;
            for (int k = 0; k <= MOST_WORDS; k++) {
                while (place < length && text[place] == ' ') {
                    place++;
                }
                places[k] = place;
                values[k] = 0;
                if (place >= length) {
                    kinds[k] = END;
                    return;
                }
                if (k == MOST_WORDS) {
                    kinds[k] = WRONG;
                    return;
                }
                place = splitWord(k, place);
                if (kinds[k] == WRONG) {
                    return;
                }
            }
        }

        /** Where the next word may begin. */
        private int splitWord(int k, int place) {
            char c = text[place];
            if (isDigit(c)) {
                return splitNumber(k, place);
            }
            if (isLetter(c)) {
                return splitName(k, place);
            }
            boolean isDouble = (c == '<' || c == '>') && place + 1 < length && text[place + 1] == '=';
            if (isDouble) {
                kinds[k] = c == '<' ? AT_MOST : AT_LEAST;
                return place + 2;
            }
            kinds[k] = isSign(c) ? c : WRONG;
            return place + 1;
        }

        private int splitNumber(int k, int start) {
            int place = start;
            long value = 0;
            while (place < length && isDigit(text[place])) {
                value = value * 10 + (text[place] - '0');
                place++;
            }
            values[k] = value;
            kinds[k] = place - start <= MOST_DIGITS ? NUMBER : WRONG;
            return place;
        }

        private int splitName(int k, int start) {
            int place = start;
            long value = 0;
            while (place < length && isLetter(text[place])) {
                value = value << 8 | text[place];
                place++;
            }
            values[k] = value;
            kinds[k] = place - start <= MOST_LETTERS ? NAME : WRONG;
            return place;
        }

        private static boolean isSign(char c) {
            for (int k = 0; k < SIGNS.length; k++) {
                if (SIGNS[k] == c) {
                    return true;
                }
            }
            return false;
        }

        private static boolean isDigit(char c) {
            return c >= '0' && c <= '9';
        }

        private static boolean isLetter(char c) {
            return c >= 'a' && c <= 'z';
        }

        private boolean skipSign(int kind) {
            if (kinds[cursor] != kind || cursor >= MOST_WORDS) {
                return false;
            }
            cursor++;
            return true;
        }

        private boolean readRule() {
            if (kinds[cursor] != NAME || rules >= MOST_RULES || isRuleName(values[cursor])) {
                return false;
            }
            names[rules] = values[cursor];
            if (!skipSign(NAME) || !skipSign(':')) {
                return false;
            }
            starts[rules] = cursor;
            days[rules] = 0;
            if (!readClause()) {
                return false;
            }
            for (int k = 0; k < MOST_WORDS && skipSign('!'); k++) {
                if (!readClause()) {
                    return false;
                }
            }
            if (skipSign('@')) {
                days[rules] = (int) values[cursor];
                if (!skipSign(NUMBER)) {
                    return false;
                }
            }
            rules++;
            return true;
        }

        private boolean isRuleName(long name) {
            for (int k = 0; k < rules; k++) {
                if (names[k] == name) {
                    return true;
                }
            }
            return false;
        }

        private boolean readClause() {
            return readSide(0) && skipCompareSign() && readSide(0);
        }

        private boolean skipCompareSign() {
            return skipSign('<') || skipSign(AT_MOST) || skipSign('=') || skipSign(AT_LEAST) || skipSign('>');
        }

        private boolean readSide(int depth) {
            skipSign('-');
            boolean isFine = readTerm(depth);
            for (int k = 0; k < MOST_WORDS && isFine && (skipSign('+') || skipSign('-')); k++) {
                isFine = readTerm(depth);
            }
            return isFine;
        }

        private boolean readTerm(int depth) {
            boolean isFine = readFactor(depth);
            for (int k = 0; k < MOST_WORDS && isFine && (skipSign('*') || skipSign('/')); k++) {
                isFine = readFactor(depth);
            }
            return isFine;
        }

        private boolean readFactor(int depth) {
            if (skipSign(NUMBER) || skipSign(NAME)) {
                return true;
            }
            return depth < MOST_DEPTH && skipSign('(') && readSide(depth + 1) && skipSign(')');
        }
    }

    /** The rules that were read, the facts, and what the rules answered when they were asked last. */
    private static final class Permits {
        private static final int MOST_FACTS = 40;
        private static final int HOLDS = 0;
        private static final int BROKEN = 1;
        private static final int EXCEPTED = 2;
        private static final int OPEN = 3;
        private static final int LATER = 4;
        private static final int MISSING = 1;
        private static final int GREAT = 2;
        private static final int ZERO = 3;
        private static final int WHY = 5;
        private static final int ABSENT = 6;

        private int rules;
        private boolean isAsked;
        private final int[] kinds = new int[PermitText.MOST_WORDS + 1];
        private final long[] values = new long[PermitText.MOST_WORDS + 1];
        private final int[] starts = new int[PermitText.MOST_RULES];
        private final int[] days = new int[PermitText.MOST_RULES];
        private final long[][] answers = new long[PermitText.MOST_RULES][ABSENT + 1];
        private final long[] exception = new long[ABSENT + 1];
        private int facts;
        private final long[] factNames = new long[MOST_FACTS];
        private final int[] factValues = new int[MOST_FACTS];
        // The reckoning stands at the cursor; what was got last is upper / lower, if there is no why.
        private int cursor;
        private int why;
        private long absent;
        private long upper;
        private long lower;

        void takeRules(PermitText text) {
            System.arraycopy(text.kinds, 0, kinds, 0, kinds.length);
            System.arraycopy(text.values, 0, values, 0, values.length);
            System.arraycopy(text.starts, 0, starts, 0, starts.length);
            System.arraycopy(text.days, 0, days, 0, days.length);
            rules = text.rules;
            isAsked = false;
        }

        static boolean isFactName(long name) {
            long rest = name;
            for (int k = 0; k < 8 && rest != 0; k++) {
                long c = rest & 255;
                if (c < 'a' || c > 'z') {
                    return false;
                }
                rest = rest >>> 8;
            }
            return name != 0;
        }

        boolean hasRoomForFact(long name) {
            return facts < MOST_FACTS || findFact(name) != NONE;
        }

        long setFact(long name, int value) {
            int found = findFact(name);
            if (found != NONE) {
                long before = factValues[found];
                factValues[found] = value;
                return before;
            }
            if (facts < MOST_FACTS) {
                factNames[facts] = name;
                factValues[facts] = value;
                facts++;
            }
            return UNKNOWN;
        }

        private int findFact(long name) {
            for (int k = 0; k < facts; k++) {
                if (factNames[k] == name) {
                    return k;
                }
            }
            return NONE;
        }

        void askAll(int day) {
            for (int rule = 0; rule < rules; rule++) {
                askRule(rule, day);
            }
            isAsked = true;
        }

        int countBroken() {
            int broken = 0;
            for (int rule = 0; rule < rules; rule++) {
                broken += answers[rule][0] == BROKEN ? 1 : 0;
            }
            return broken;
        }

        int firstRefusing() {
            for (int rule = 0; rule < rules; rule++) {
                if (answers[rule][0] == BROKEN || answers[rule][0] == OPEN) {
                    return rule;
                }
            }
            return NONE;
        }

        long answerOf(int rule, int what) {
            return answers[rule][what];
        }

        private void askRule(int rule, int day) {
            long[] answer = answers[rule];
            Arrays.fill(answer, 0);
            if (day < days[rule]) {
                answer[0] = LATER;
                return;
            }
            why = 0;
            absent = 0;
            cursor = starts[rule];
            boolean isHolding = reckonClause(answer);
            int found = isHolding ? HOLDS : BROKEN;
            if (!isHolding) {
                isHolding = true;
                for (int k = 0; k < PermitText.MOST_WORDS && why == 0 && isHolding && kinds[cursor] == '!'; k++) {
                    takeWord();
                    isHolding = reckonClause(exception);
                    found = isHolding ? EXCEPTED : BROKEN;
                }
            }
            answer[0] = why != 0 ? OPEN : found;
            answer[WHY] = why;
            answer[ABSENT] = absent;
        }

        /** Whether it holds; what its sides are is noted as far as they are reckoned. */
        private boolean reckonClause(long[] answer) {
            reckonSide(0);
            if (why != 0) {
                return false;
            }
            answer[1] = upper;
            answer[2] = lower;
            int sign = takeWord();
            reckonSide(0);
            if (why != 0) {
                return false;
            }
            answer[3] = upper;
            answer[4] = lower;
            return compareWith(sign, answer[1], answer[2]);
        }

        private boolean compareWith(int sign, long leftUpper, long leftLower) {
            long left = multiply(leftUpper, lower);
            long right = multiply(upper, leftLower);
            if (why != 0) {
                return false;
            }
            switch (sign) {
                case '<':
                    return left < right;
                case PermitText.AT_MOST:
                    return left <= right;
                case '=':
                    return left == right;
                case PermitText.AT_LEAST:
                    return left >= right;
                default:
                    return left > right;
            }
        }

        /** The kind of the word at the cursor, which goes on; the END is never passed. */
        private int takeWord() {
            int kind = kinds[cursor];
            if (cursor < PermitText.MOST_WORDS) {
                cursor++;
            }
            return kind;
        }

        private void reckonSide(int depth) {
            boolean isChanged = kinds[cursor] == '-';
            if (isChanged) {
                takeWord();
            }
            reckonTerm(depth);
            if (isChanged) {
                combine('-', 0, 1);
                takeOutCommon();
            }
            for (int k = 0; k < PermitText.MOST_WORDS && why == 0 && isSign('+', '-'); k++) {
                long firstUpper = upper;
                long firstLower = lower;
                int sign = takeWord();
                reckonTerm(depth);
                combine(sign, firstUpper, firstLower);
                takeOutCommon();
            }
        }

        private void reckonTerm(int depth) {
            reckonFactor(depth);
            for (int k = 0; k < PermitText.MOST_WORDS && why == 0 && isSign('*', '/'); k++) {
                long firstUpper = upper;
                long firstLower = lower;
                int sign = takeWord();
                reckonFactor(depth);
                combine(sign, firstUpper, firstLower);
                takeOutCommon();
            }
        }

        private boolean isSign(int sign, int other) {
            return kinds[cursor] == sign || kinds[cursor] == other;
        }

        private void reckonFactor(int depth) {
            long value = values[cursor];
            int kind = takeWord();
            if (kind == '(' && depth < PermitText.MOST_DEPTH) {
                reckonSide(depth + 1);
                takeWord();
                return;
            }
            lower = 1;
            if (kind == PermitText.NUMBER) {
                upper = value;
                return;
            }
            int found = findFact(value);
            if (found == NONE) {
                why = MISSING;
                absent = value;
                return;
            }
            upper = factValues[found];
        }

        /** a / b with what was got last, c / d; what is got then is not yet in lowest terms. */
        private void combine(int sign, long a, long b) {
            long c = upper;
            long d = lower;
            if (why != 0) {
                return;
            }
            if (sign == '*') {
                upper = multiply(a, c);
                lower = multiply(b, d);
                return;
            }
            upper = multiply(a, d);
            if (sign == '/') {
                lower = multiply(b, c);
                why = c == 0 ? ZERO : why;
                return;
            }
            long other = multiply(c, b);
            upper = sign == '+' ? add(upper, other) : subtract(upper, other);
            lower = multiply(b, d);
        }

        private long multiply(long a, long b) {
            if (a == 0 || b == 0) {
                return 0;
            }
            long product = a * b;
            boolean isTurned = a == -1 && b == Long.MIN_VALUE || b == -1 && a == Long.MIN_VALUE;
            if (isTurned || product / b != a) {
                why = GREAT;
            }
            return product;
        }

        private long add(long a, long b) {
            long sum = a + b;
            if (((a ^ sum) & (b ^ sum)) < 0) {
                why = GREAT;
            }
            return sum;
        }

        private long subtract(long a, long b) {
            long difference = a - b;
            if (((a ^ b) & (a ^ difference)) < 0) {
                why = GREAT;
            }
            return difference;
        }

        /** What divides both is kept below 0, where 2^63 has its place too. */
        private void takeOutCommon() {
            if (why != 0) {
                return;
            }
            long common = commonBelowZero(upper, lower);
            if (common < -1) {
                upper = -(upper / common);
                lower = -(lower / common);
            }
            if (lower < 0) {
                if (upper == Long.MIN_VALUE || lower == Long.MIN_VALUE) {
                    why = GREAT;
                    return;
                }
                upper = -upper;
                lower = -lower;
            }
        }

        private static long commonBelowZero(long a, long b) {
            long x = a > 0 ? -a : a;
            long y = b > 0 ? -b : b;
            for (int k = 0; k < 100 && y != 0; k++) {
                long rest = x % y;
                x = y;
                y = rest;
            }
            return x;
        }
    }

    /** The cells of the house that is built: smoke in them, ways out of them, persons in them. */
    private static final class Storey {
        static final int MOST_PERSONS = 40;
        private static final int SPREAD_SECONDS = 10;
        // What is kept of a person, the first six as where() numbers them.
        private static final int ROOM = 0;
        private static final int X = 1;
        private static final int Y = 2;
        private static final int CAUGHT = 3;
        private static final int STEPS = 4;
        private static final int SINCE = 5;
        private static final int GROUP = 6;
        private static final int PACE = 7;

        private final Plan plan;
        private final Finding finding;
        private final boolean[] hasSmoke = new boolean[Finding.CELLS];
        private final int[] smokeInRoom = new int[MOST_ROOMS];
        private int smoky;
        private final int[] walking = new int[Finding.CELLS];
        private final int[] queue = new int[Finding.CELLS];
        private int persons;
        private final int[][] personTable = new int[MOST_PERSONS][8];
        private final int[] turns = new int[MOST_PERSONS];
        private final int[][] doorCounts = new int[Plan.MOST_LINES][Plan.MOST_DOORS];

        Storey(Plan plan, Finding finding) {
            this.plan = plan;
            this.finding = finding;
        }

        int outside() {
            return finding.spaces;
        }

        int zoneOf(int room) {
            return room >= 0 && room < finding.spaces ? finding.names[room] % 10 : NONE;
        }

        private boolean isInSpace(int cell) {
            return cell >= 0 && cell < Finding.CELLS && finding.owner[cell] != NONE;
        }

        private boolean canGo(int cell, int direction) {
            int line = finding.wallBeside(cell, direction);
            return line == NONE || plan.hasDoorAt(line, finding.distanceBeside(cell, direction, line));
        }

        /** Walking numbers ask for no smoke, and nothing is built behind: once is enough. */
        void numberCells() {
            int numbered = 0;
            for (int cell = 0; cell < Finding.CELLS; cell++) {
                walking[cell] = NONE;
                if (isInSpace(cell) && isBesideOutside(cell)) {
                    walking[cell] = 1;
                    queue[numbered] = cell;
                    numbered++;
                }
            }
            for (int k = 0; k < numbered; k++) {
                for (int direction = 0; direction < 4; direction++) {
                    int next = finding.cellBeside(queue[k], direction);
                    boolean isNew = isInSpace(next) && walking[next] == NONE && numbered < Finding.CELLS;
                    if (isNew && canGo(queue[k], direction)) {
                        walking[next] = walking[queue[k]] + 1;
                        queue[numbered] = next;
                        numbered++;
                    }
                }
            }
        }

        private boolean isBesideOutside(int cell) {
            for (int direction = 0; direction < 4; direction++) {
                if (!isInSpace(finding.cellBeside(cell, direction)) && canGo(cell, direction)) {
                    return true;
                }
            }
            return false;
        }

        boolean addSmoke(int cell) {
            if (hasSmoke[cell]) {
                return false;
            }
            hasSmoke[cell] = true;
            smoky++;
            int room = finding.owner[cell];
            if (room >= 0 && room < MOST_ROOMS) {
                smokeInRoom[room]++;
            }
            return true;
        }

        void spreadSmoke(int time) {
            if (time % SPREAD_SECONDS != 0) {
                return;
            }
            int sources = 0;
            for (int cell = 0; cell < Finding.CELLS; cell++) {
                if (hasSmoke[cell]) {
                    queue[sources] = cell;
                    sources++;
                }
            }
            for (int k = 0; k < sources; k++) {
                for (int direction = 0; direction < 4; direction++) {
                    int next = finding.cellBeside(queue[k], direction);
                    if (next != NONE && !hasSmoke[next] && canGo(queue[k], direction)) {
                        addSmoke(next);
                    }
                }
            }
        }

        int cellFact(int cell, int what) {
            switch (what) {
                case 0:
                    return hasSmoke[cell] ? 1 : 0;
                case 1:
                    return walking[cell];
                default:
                    return countInCell(cell);
            }
        }

        private int countInCell(int cell) {
            int all = 0;
            for (int person = 0; person < persons; person++) {
                all += cellOf(person) == cell && !isCaught(person) ? 1 : 0;
            }
            return all;
        }

        int addPerson(int group, int pace) {
            if (persons >= MOST_PERSONS) {
                return NONE;
            }
            int[] p = personTable[persons];
            p[ROOM] = outside();
            p[X] = NONE;
            p[Y] = NONE;
            p[CAUGHT] = NONE;
            p[GROUP] = group;
            p[PACE] = pace;
            persons++;
            return persons - 1;
        }

        int personFact(int person, int what) {
            return personTable[person][what];
        }

        int roomOf(int person) {
            return personTable[person][ROOM];
        }

        int groupOf(int person) {
            return personTable[person][GROUP];
        }

        boolean isCaught(int person) {
            return personTable[person][CAUGHT] != NONE;
        }

        /** NONE in the outside. */
        private int cellOf(int person) {
            int[] p = personTable[person];
            return p[X] == NONE ? NONE : Finding.cellNumber(p[X], p[Y]);
        }

        void putInto(int person, int room, int x, int y, int time) {
            int[] p = personTable[person];
            boolean isOut = room == outside();
            p[ROOM] = room;
            p[X] = isOut ? NONE : x;
            p[Y] = isOut ? NONE : y;
            p[SINCE] = time;
        }

        int countInZone(int zone) {
            int all = 0;
            for (int person = 0; person < persons; person++) {
                all += zoneOf(roomOf(person)) == zone ? 1 : 0;
            }
            return all;
        }

        int countFreeInside() {
            int all = 0;
            for (int person = 0; person < persons; person++) {
                all += isFreeInside(person) ? 1 : 0;
            }
            return all;
        }

        private boolean isFreeInside(int person) {
            return cellOf(person) != NONE && !isCaught(person);
        }

        void catchPersons(int time) {
            for (int person = 0; person < persons; person++) {
                if (isFreeInside(person) && hasSmoke[cellOf(person)]) {
                    personTable[person][CAUGHT] = time;
                }
            }
        }

        void movePersons(int time) {
            for (int line = 0; line < plan.lines; line++) {
                Arrays.fill(doorCounts[line], 0);
            }
            int going = lineUp(time);
            for (int k = 0; k < going; k++) {
                moveOne(turns[k], time);
            }
        }

        /** Those who are to go, in their order: how many. */
        private int lineUp(int time) {
            int going = 0;
            for (int person = 0; person < persons; person++) {
                int[] p = personTable[person];
                if (isFreeInside(person) && time - p[SINCE] >= p[PACE]) {
                    int place = going;
                    while (place > 0 && urgencyOf(turns[place - 1]) > urgencyOf(person)) {
                        turns[place] = turns[place - 1];
                        place--;
                    }
                    turns[place] = person;
                    going++;
                }
            }
            return going;
        }

        private int urgencyOf(int person) {
            int number = walking[cellOf(person)];
            return number == NONE ? Integer.MAX_VALUE : number;
        }

        private void moveOne(int person, int time) {
            int cell = cellOf(person);
            for (int direction = 0; direction < 4; direction++) {
                if (isBetter(cell, direction) && goesThrough(cell, direction)) {
                    step(person, finding.cellBeside(cell, direction), time);
                    return;
                }
            }
        }

        private boolean isBetter(int cell, int direction) {
            int next = finding.cellBeside(cell, direction);
            int own = walking[cell];
            if (next != NONE && hasSmoke[next]) {
                return false;
            }
            return isInSpace(next) ? walking[next] != NONE && walking[next] < own : own == 1;
        }

        /** Whether one goes there; a door through which one goes counts it. */
        private boolean goesThrough(int cell, int direction) {
            int line = finding.wallBeside(cell, direction);
            if (line == NONE) {
                return true;
            }
            int distance = finding.distanceBeside(cell, direction, line);
            for (int door = 0; door < plan.doors[line]; door++) {
                if (plan.isDoorAt(line, door, distance) && doorCounts[line][door] < plan.rateOf(line, door)) {
                    doorCounts[line][door]++;
                    return true;
                }
            }
            return false;
        }

        private void step(int person, int next, int time) {
            personTable[person][STEPS]++;
            if (isInSpace(next)) {
                putInto(person, finding.owner[next], next / Finding.EDGE, next % Finding.EDGE, time);
            } else {
                putInto(person, outside(), NONE, NONE, time);
            }
        }
    }

    /** Portals, cards and rights, and what has been told of them. */
    private static final class Access {
        static final int MOST_CARDS = 60;
        static final int MOST_RIGHTS = 16;
        // Each unit of each door would be a portal at most.
        private static final int MOST_PORTALS = Plan.MOST_LINES * Plan.MOST_DOORS * Finding.EDGE;
        private static final int MOST_ROWS = 20;
        private static final int MOST_AGAINST = 100;
        private static final int MOST_NOTES = 512;
        private static final int LOST_NOTE = 100;
        // Why a card is refused.
        private static final int UNKNOWN_CARD = 1;
        private static final int OVER = 2;
        private static final int LOST = 3;
        private static final int ELSEWHERE = 4;
        private static final int NO_RIGHT = 5;
        private static final int AIRLOCK = 6;
        private static final int WANTS_TWO = 7;
        private static final int ONE_PERSON = 8;
        private static final int CAUGHT = 9;
        // What is kept of a portal; its least cells in A and in B stand behind one another.
        private static final int ROOM_A = 0;
        private static final int ROOM_B = 1;
        private static final int LINE = 2;
        private static final int DOOR = 3;
        private static final int CELL_A = 4;
        private static final int CELL_B = 6;
        private static final int IS_OPEN = 8;
        private static final int SINCE = 9;
        private static final int TWO = 10;
        private static final int OFF_FROM = 11;
        private static final int ROWS = 12;
        private static final int PORTAL_FIELDS = 13;

        private final Plan plan;
        private final Finding finding;
        private final Storey storey;
        private int portals;
        private int[] portalTable = new int[0];
        private int[] rows = new int[0];
        private long[] airlocks = new long[0];
        private int lockWords;
        private int cards;
        private final int[][] cardTable = new int[MOST_CARDS][3];
        private int rights;
        private final int[][] rightTable = new int[MOST_RIGHTS][6];
        private int tellings;
        private int notes;
        private final int[] noteTable = new int[3 * MOST_NOTES];
        private int againstRows;
        private final int[] againstTable = new int[4 * MOST_AGAINST];
        private int time;
        private boolean isReleased;

        Access(Plan plan, Finding finding, Storey storey) {
            this.plan = plan;
            this.finding = finding;
            this.storey = storey;
        }

        /** Counts the portals first, so that the rows kept of them are no longer than is needed. */
        void findPortals() {
            int all = Math.min(scanLines(false), MOST_PORTALS);
            portalTable = new int[all * PORTAL_FIELDS];
            rows = new int[all * MOST_ROWS * 3];
            lockWords = (all + 63) / 64;
            airlocks = new long[all * lockWords];
            portals = all;
            scanLines(true);
        }

        private int scanLines(boolean isNoting) {
            int found = 0;
            for (int line = 0; line < plan.lines; line++) {
                for (int door = 0; door < plan.doors[line]; door++) {
                    found = scanDoor(line, door, found, isNoting);
                }
            }
            return found;
        }

        private int scanDoor(int line, int door, int found, boolean isNoting) {
            int from = plan.fromOf(line, door);
            int to = plan.toOf(line, door);
            for (int distance = from; distance < to; distance++) {
                boolean isPart = distance == from || finding.isPointOn(line, distance);
                int left = finding.roomLeft(line, distance);
                int right = finding.roomRight(line, distance);
                if (isPart && left != right) {
                    if (isNoting && found < portals) {
                        notePortal(found, line, distance);
                        setFact(found, DOOR, door);
                        setFact(found, ROOM_A, roomFor(left));
                        setFact(found, ROOM_B, roomFor(right));
                    }
                    found++;
                }
            }
            return found;
        }

        private void notePortal(int portal, int line, int distance) {
            int at = portal * PORTAL_FIELDS;
            boolean level = plan.isLevel(line);
            int x = finding.unitX(line, distance);
            int y = finding.unitY(line, distance);
            portalTable[at + LINE] = line;
            portalTable[at + CELL_A] = level ? x : x - 1;
            portalTable[at + CELL_A + 1] = y;
            portalTable[at + CELL_B] = x;
            portalTable[at + CELL_B + 1] = level ? y - 1 : y;
            portalTable[at + OFF_FROM] = NONE;
        }

        private int roomFor(int space) {
            return space == NONE ? storey.outside() : space;
        }

        int factOf(int portal, int what) {
            return portalTable[portal * PORTAL_FIELDS + what];
        }

        private void setFact(int portal, int what, int v) {
            portalTable[portal * PORTAL_FIELDS + what] = v;
        }

        boolean isRoomOf(int portal, int room) {
            return factOf(portal, ROOM_A) == room || factOf(portal, ROOM_B) == room;
        }

        private boolean isOff(int portal) {
            return factOf(portal, OFF_FROM) != NONE;
        }

        boolean hasRoomForRows(int portal, int more) {
            return !isOff(portal) || factOf(portal, ROWS) + more <= MOST_ROWS;
        }

        int addCard(int person, int until) {
            if (cards >= MOST_CARDS) {
                return NONE;
            }
            int[] card = cardTable[cards];
            card[0] = person;
            card[1] = until;
            card[2] = tellings;
            tellings++;
            cards++;
            return cards - 1;
        }

        int addRight(int group, int zone, int from, int to, int since) {
            if (rights >= MOST_RIGHTS) {
                return NONE;
            }
            int[] right = rightTable[rights];
            right[0] = group;
            right[1] = zone;
            right[2] = from;
            right[3] = to;
            right[4] = since;
            right[5] = tellings;
            tellings++;
            rights++;
            return rights - 1;
        }

        int tellEnd(int right, int minute) {
            return note(right, minute);
        }

        int tellLost(int card, int minute) {
            return note(LOST_NOTE + card, minute);
        }

        /** All notes are kept, as a portal that is off may know an older one; each takes a call, so they have room. */
        private int note(int target, int minute) {
            int before = latestNote(target, tellings);
            if (notes < MOST_NOTES) {
                noteTable[3 * notes] = target;
                noteTable[3 * notes + 1] = minute;
                noteTable[3 * notes + 2] = tellings;
                notes++;
            }
            tellings++;
            return before;
        }

        /** The minute of the latest note of those with lesser numbers than known. */
        private int latestNote(int target, int known) {
            for (int k = notes - 1; k >= 0; k--) {
                if (noteTable[3 * k] == target && noteTable[3 * k + 2] < known) {
                    return noteTable[3 * k + 1];
                }
            }
            return NONE;
        }

        private boolean isNoted(int target, int known, int minute) {
            int noted = latestNote(target, known);
            return noted != NONE && noted <= minute;
        }

        boolean setTwo(int portal, boolean on) {
            boolean before = factOf(portal, TWO) != 0;
            setFact(portal, TWO, on ? 1 : 0);
            return before;
        }

        boolean setAirlock(int a, int b, boolean on) {
            boolean before = isAirlock(a, b);
            setLockBit(a, b, on);
            setLockBit(b, a, on);
            return before;
        }

        private boolean isAirlock(int a, int b) {
            return (airlocks[a * lockWords + b / 64] >> b % 64 & 1) != 0;
        }

        private void setLockBit(int a, int b, boolean on) {
            int at = a * lockWords + b / 64;
            long bit = 1L << b % 64;
            airlocks[at] = on ? airlocks[at] | bit : airlocks[at] & ~bit;
        }

        int setOpen(int portal, boolean open, int time) {
            int seconds = time - factOf(portal, SINCE);
            if (open != (factOf(portal, IS_OPEN) != 0)) {
                setFact(portal, IS_OPEN, open ? 1 : 0);
                setFact(portal, SINCE, time);
            }
            return seconds;
        }

        int goOff(int portal) {
            if (!isOff(portal)) {
                setFact(portal, OFF_FROM, tellings);
            }
            return 0;
        }

        int joinAgain(int portal, int time) {
            if (!isOff(portal)) {
                return 0;
            }
            setFact(portal, OFF_FROM, NONE);
            int count = factOf(portal, ROWS);
            setFact(portal, ROWS, 0);
            for (int k = 0; k < count && k < MOST_ROWS; k++) {
                int at = 3 * (portal * MOST_ROWS + k);
                takeRow(portal, rows[at], rows[at + 1], rows[at + 2], time);
            }
            return count;
        }

        private void takeRow(int portal, int card, int room, int minute, int time) {
            int person = cardTable[card][0];
            if (!storey.isCaught(person)) {
                comeIn(person, portal, room, time);
            }
            int why = paperRefusal(card, room, minute, tellings);
            if (why != 0) {
                noteAgainst(portal, card, minute, why);
            }
        }

        private void noteAgainst(int portal, int card, int minute, int why) {
            if (againstRows < MOST_AGAINST) {
                int at = 4 * againstRows;
                againstTable[at] = portal;
                againstTable[at + 1] = card;
                againstTable[at + 2] = minute;
                againstTable[at + 3] = why;
            }
            againstRows++;
        }

        int keptAgainst() {
            return Math.min(againstRows, MOST_AGAINST);
        }

        int againstFact(int k, int what) {
            return againstTable[4 * k + what - 1];
        }

        private void comeIn(int person, int portal, int room, int time) {
            int cell = room == factOf(portal, ROOM_A) ? CELL_A : CELL_B;
            storey.putInto(person, room, factOf(portal, cell), factOf(portal, cell + 1), time);
        }

        /** The moment of the asking that follows. */
        void setMoment(int time, boolean isReleased) {
            this.time = time;
            this.isReleased = isReleased;
        }

        int askOne(int card, int portal, int room) {
            int why = refusal(card, portal, room);
            if (why == 0 && !isReleased && factOf(portal, TWO) != 0) {
                why = WANTS_TWO;
            }
            if (why == 0) {
                letIn(card, portal, room);
            }
            return why;
        }

        int askTwo(int cardA, int cardB, int portal, int room) {
            int why = refusal(cardA, portal, room);
            if (why == 0) {
                why = refusal(cardB, portal, room);
            }
            if (why == 0 && !isReleased && cardTable[cardA][0] == cardTable[cardB][0]) {
                why = ONE_PERSON;
            }
            if (why == 0) {
                letIn(cardA, portal, room);
                letIn(cardB, portal, room);
            }
            return why;
        }

        private void letIn(int card, int portal, int room) {
            if (isReleased || !isOff(portal)) {
                comeIn(cardTable[card][0], portal, room, time);
                return;
            }
            int count = factOf(portal, ROWS);
            if (count < MOST_ROWS) {
                int at = 3 * (portal * MOST_ROWS + count);
                rows[at] = card;
                rows[at + 1] = room;
                rows[at + 2] = time / 60;
                setFact(portal, ROWS, count + 1);
            }
        }

        /** All but that the portal wants two. */
        private int refusal(int card, int portal, int room) {
            int person = cardTable[card][0];
            if (storey.isCaught(person)) {
                return CAUGHT;
            }
            if (isReleased) {
                return isElsewhere(person, portal, room) ? ELSEWHERE : 0;
            }
            int known = isOff(portal) ? factOf(portal, OFF_FROM) : tellings;
            int why = cardRefusal(card, time / 60, known);
            if (why == 0 && !isOff(portal) && isElsewhere(person, portal, room)) {
                why = ELSEWHERE;
            }
            if (why == 0 && !hasRight(card, room, time / 60, known)) {
                why = NO_RIGHT;
            }
            if (why == 0 && isLocked(portal)) {
                why = AIRLOCK;
            }
            return why;
        }

        private boolean isElsewhere(int person, int portal, int room) {
            int a = factOf(portal, ROOM_A);
            int other = room == a ? factOf(portal, ROOM_B) : a;
            return storey.roomOf(person) != other;
        }

        private int paperRefusal(int card, int room, int minute, int known) {
            int why = cardRefusal(card, minute, known);
            return why == 0 && !hasRight(card, room, minute, known) ? NO_RIGHT : why;
        }

        private int cardRefusal(int card, int minute, int known) {
            if (cardTable[card][2] >= known) {
                return UNKNOWN_CARD;
            }
            if (cardTable[card][1] < minute) {
                return OVER;
            }
            return isNoted(LOST_NOTE + card, known, minute) ? LOST : 0;
        }

        /** Nobody needs one for the outside. */
        private boolean hasRight(int card, int room, int minute, int known) {
            if (room == storey.outside()) {
                return true;
            }
            int group = storey.groupOf(cardTable[card][0]);
            int zone = storey.zoneOf(room);
            for (int k = 0; k < rights; k++) {
                int[] right = rightTable[k];
                boolean isFor = right[0] == group && right[1] == zone && right[5] < known;
                boolean isNow = right[4] <= minute && isInSpan(minute % DAY_MINUTES, right[2], right[3]);
                if (isFor && isNow && !isNoted(k, known, minute)) {
                    return true;
                }
            }
            return false;
        }

        private static boolean isInSpan(int minute, int from, int to) {
            if (from <= to) {
                return from <= minute && minute < to;
            }
            return from <= minute || minute < to;
        }

        private boolean isLocked(int portal) {
            for (int other = 0; other < portals; other++) {
                if (isAirlock(portal, other) && factOf(other, IS_OPEN) != 0) {
                    return true;
                }
            }
            return false;
        }
    }

    /** The text of the matrix, and the reading of it into tables that count once nothing is wrong in it. */
    private static final class MatrixText {
        static final int MOST_CHARACTERS = 2000;
        static final int MOST_ZONE_POINTS = 12;
        static final int ZONES = 20;
        static final int ACTS = 20;
        static final int MOST_ROWS = 50;
        // Zones are kept as how many they need (0: not told), how many points, and these.
        static final int NEEDS = 0;
        static final int HOW_MANY = 1;
        static final int FIRST_POINT = 2;
        // Acts are kept with whether they are told; rows as zone, zone or NONE, act.
        static final int IS_TOLD = 0;
        static final int KIND = 1;
        static final int RANK = 2;
        static final int DELAY = 3;
        static final int LATCHES = 4;
        private static final int LONGEST_SENTENCE = 200;
        private static final int MOST_DIGITS = 6;
        // Words are kept as numbers, a byte for each letter, so that reading makes no texts.
        private static final long ZONE_WORD = 0x7a6f6e65L;
        private static final long NEEDS_WORD = 0x6e65656473L;
        private static final long OF_WORD = 0x6f66L;
        private static final long ACT_WORD = 0x616374L;
        private static final long KIND_WORD = 0x6b696e64L;
        private static final long RANK_WORD = 0x72616e6bL;
        private static final long DELAY_WORD = 0x64656c6179L;
        private static final long WHEN_WORD = 0x7768656eL;
        private static final long DOES_WORD = 0x646f6573L;
        private static final long HOLD_WORD = 0x686f6c64L;
        private static final long AND_WORD = 0x26L;
        // Kinds of words; a sign is its own kind.
        private static final int END = 'e';
        private static final int LETTERS = 'a';
        private static final int DIGITS = '0';
        private static final int OTHER = '?';

        // What is written stands behind the text until it is known that it has room.
        private final char[] text = new char[MOST_CHARACTERS + LONGEST_SENTENCE];
        private int length;
        private int written;
        private int points;
        private int word;
        private int kind;
        private int wordStart;
        private int wordEnd;
        private long letters;
        private final int[][] zones = new int[ZONES][FIRST_POINT + MOST_ZONE_POINTS];
        private final int[][] acts = new int[ACTS][LATCHES + 1];
        private final int[][] rows = new int[MOST_ROWS][3];
        private int rowCount;

        int append(int c) {
            if (length < MOST_CHARACTERS) {
                text[length] = (char) c;
                length++;
            }
            return length;
        }

        /** How many characters there would be with the sentence. */
        int writeSentence(int which, int a, int b, int c, int d) {
            written = length;
            switch (which) {
                case 0:
                    writePart(ZONE_WORD, a);
                    writePart(NEEDS_WORD, b);
                    writePart(OF_WORD, c);
                    for (int k = 1; k < d && k < MOST_ZONE_POINTS; k++) {
                        writeNumber(c + k);
                    }
                    break;
                case 1:
                    writePart(ACT_WORD, a);
                    writePart(KIND_WORD, b);
                    writePart(RANK_WORD, c);
                    writePart(DELAY_WORD, d);
                    break;
                case 2:
                    writePart(WHEN_WORD, a);
                    writePart(DOES_WORD, b);
                    break;
                case 3:
                    writePart(WHEN_WORD, a);
                    writePart(AND_WORD, b);
                    writePart(DOES_WORD, c);
                    break;
                default:
                    writePart(HOLD_WORD, a);
                    break;
            }
            write(';');
            write(' ');
            return written;
        }

        private void writePart(long before, int number) {
            for (int shift = 56; shift >= 0; shift -= 8) {
                long c = before >> shift & 255;
                if (c != 0) {
                    write((char) c);
                }
            }
            write(' ');
            writeNumber(number);
        }

        private void writeNumber(int number) {
            boolean isBegun = false;
            for (int place = 10000; place > 0; place /= 10) {
                int digit = number / place % 10;
                if (digit != 0 || isBegun || place == 1) {
                    write((char) ('0' + digit));
                    isBegun = true;
                }
            }
            write(' ');
        }

        private void write(char c) {
            if (written < text.length) {
                text[written] = c;
                written++;
            }
        }

        /** Whether nothing is wrong; else word is the number of the wrong one. */
        boolean readSentences(int pointCount) {
            points = pointCount;
            forgetTables();
            word = -1;
            wordEnd = 0;
            nextWord();
            for (int k = 0; k < MOST_CHARACTERS && kind != END; k++) {
                if (!readSentence()) {
                    return false;
                }
            }
            return true;
        }

        private void forgetTables() {
            rowCount = 0;
            for (int zone = 0; zone < ZONES; zone++) {
                Arrays.fill(zones[zone], 0);
            }
            for (int act = 0; act < ACTS; act++) {
                Arrays.fill(acts[act], 0);
            }
        }

        private void nextWord() {
            int place = wordEnd;
            while (place < length && (text[place] == 32 || text[place] == 10)) {
                place++;
            }
            word++;
            wordStart = place;
            letters = 0;
            kind = place < length ? kindOf(text[place]) : END;
            boolean isLong = kind == LETTERS || kind == DIGITS;
            while (isLong && place < length && kindOf(text[place]) == kind) {
                letters = letters << 8 | text[place];
                place++;
            }
            wordEnd = isLong || kind == END ? place : place + 1;
        }

        private static int kindOf(char c) {
            if (c >= 'a' && c <= 'z') {
                return LETTERS;
            }
            if (c >= '0' && c <= '9') {
                return DIGITS;
            }
            return c == ';' || c == '&' ? c : OTHER;
        }

        /** A word of more than eight letters is none of those that are known: all its eight bytes are letters. */
        private boolean isWord(long known) {
            return kind == LETTERS && letters == known;
        }

        private boolean skipWord(long known) {
            boolean isIt = isWord(known);
            if (isIt) {
                nextWord();
            }
            return isIt;
        }

        private boolean skipSign(int sign) {
            boolean isIt = kind == sign;
            if (isIt) {
                nextWord();
            }
            return isIt;
        }

        /** The number that stands here, if it is in these bounds, else NONE. */
        private int numberHere(int least, int greatest) {
            if (kind != DIGITS || wordEnd - wordStart > MOST_DIGITS) {
                return NONE;
            }
            int value = 0;
            for (int k = wordStart; k < wordEnd; k++) {
                value = value * 10 + (text[k] - '0');
            }
            return value >= least && value <= greatest ? value : NONE;
        }

        private boolean readSentence() {
            if (skipWord(ZONE_WORD)) {
                return readZone();
            }
            if (skipWord(ACT_WORD)) {
                return readAct();
            }
            if (isWord(WHEN_WORD)) {
                return rowCount < MOST_ROWS && readRow();
            }
            return skipWord(HOLD_WORD) && readHold();
        }

        private boolean readZone() {
            int zone = numberHere(0, ZONES - 1);
            if (zone == NONE || zones[zone][NEEDS] != 0) {
                return false;
            }
            nextWord();
            if (!skipWord(NEEDS_WORD)) {
                return false;
            }
            int needs = numberHere(1, MOST_ZONE_POINTS);
            int needsWord = word;
            if (needs == NONE) {
                return false;
            }
            nextWord();
            if (!skipWord(OF_WORD)) {
                return false;
            }
            int count = readPoints(zones[zone]);
            if (count == 0 || !skipSign(';')) {
                return false;
            }
            if (needs > count) {
                word = needsWord;
                return false;
            }
            zones[zone][NEEDS] = needs;
            zones[zone][HOW_MANY] = count;
            return true;
        }

        private int readPoints(int[] zone) {
            int count = 0;
            for (int k = 0; k < MOST_ZONE_POINTS; k++) {
                int point = numberHere(0, points - 1);
                if (point == NONE || isAmong(zone, count, point)) {
                    return count;
                }
                zone[FIRST_POINT + count] = point;
                count++;
                nextWord();
            }
            return count;
        }

        private static boolean isAmong(int[] zone, int count, int point) {
            for (int k = 0; k < count; k++) {
                if (zone[FIRST_POINT + k] == point) {
                    return true;
                }
            }
            return false;
        }

        private boolean readAct() {
            int act = numberHere(0, ACTS - 1);
            if (act == NONE || acts[act][IS_TOLD] != 0) {
                return false;
            }
            nextWord();
            boolean isFine = readActNumber(act, KIND_WORD, KIND, 5)
                && readActNumber(act, RANK_WORD, RANK, 99)
                && readActNumber(act, DELAY_WORD, DELAY, 600)
                && skipSign(';');
            acts[act][IS_TOLD] = 1;
            return isFine;
        }

        private boolean readActNumber(int act, long before, int what, int greatest) {
            if (!skipWord(before)) {
                return false;
            }
            int number = numberHere(0, greatest);
            if (number == NONE) {
                return false;
            }
            acts[act][what] = number;
            nextWord();
            return true;
        }

        private boolean readRow() {
            nextWord();
            int zone = toldZoneHere();
            if (zone == NONE) {
                return false;
            }
            nextWord();
            int second = NONE;
            if (skipSign('&')) {
                second = toldZoneHere();
                if (second == NONE || second == zone) {
                    return false;
                }
                nextWord();
            }
            if (!skipWord(DOES_WORD)) {
                return false;
            }
            int act = toldActHere();
            if (act == NONE) {
                return false;
            }
            nextWord();
            if (!skipSign(';')) {
                return false;
            }
            int[] row = rows[rowCount];
            row[0] = zone;
            row[1] = second;
            row[2] = act;
            rowCount++;
            return true;
        }

        private int toldZoneHere() {
            int zone = numberHere(0, ZONES - 1);
            return zone != NONE && zones[zone][NEEDS] != 0 ? zone : NONE;
        }

        private int toldActHere() {
            int act = numberHere(0, ACTS - 1);
            return act != NONE && acts[act][IS_TOLD] != 0 ? act : NONE;
        }

        private boolean readHold() {
            int act = toldActHere();
            if (act == NONE || acts[act][LATCHES] != 0) {
                return false;
            }
            nextWord();
            acts[act][LATCHES] = 1;
            return skipSign(';');
        }
    }

    /** The alarm matrix: points, and the zones and acts that the text last told. */
    private static final class Matrix {
        static final int SWITCHES = 10;
        private static final int MOST_POINTS = MOST_ROOMS + SWITCHES;
        private static final int ON_FROM = 50;
        private static final int MOST_EVENTS = 60;
        private static final int REST = 0;
        private static final int WAITING = 1;
        private static final int DONE = 2;
        private static final int TELEGRAM_KIND = 2;
        private static final int SET_POINT_KIND = 3;
        private static final int ALARM_STATION = 7;

        private final Program program;
        private final Bus bus;
        private int points;
        private final int[] values = new int[MOST_POINTS];
        private final boolean[] isFaulty = new boolean[MOST_POINTS];
        private final int[] disabledUntil = new int[MOST_POINTS];
        private final int[][] zones = new int[MatrixText.ZONES][MatrixText.FIRST_POINT + MatrixText.MOST_ZONE_POINTS];
        private final int[][] acts = new int[MatrixText.ACTS][MatrixText.LATCHES + 1];
        private final int[][] rows = new int[MatrixText.MOST_ROWS][3];
        private int rowCount;
        private final int[] byRank = new int[MatrixText.ACTS];
        private final int[] states = new int[MatrixText.ACTS];
        private final int[] waitsSince = new int[MatrixText.ACTS];
        private final boolean[] isLookedAt = new boolean[MatrixText.ACTS];
        private final boolean[] isConfirmed = new boolean[MatrixText.ACTS];
        // As they were when they were looked at last.
        private final boolean[] isZoneOn = new boolean[MatrixText.ZONES];
        private final boolean[] isZoneSure = new boolean[MatrixText.ZONES];
        private int events;
        private final int[][] eventTable = new int[MOST_EVENTS][3];

        Matrix(Program program, Bus bus) {
            this.program = program;
            this.bus = bus;
        }

        void takeTables(MatrixText text) {
            for (int zone = 0; zone < MatrixText.ZONES; zone++) {
                System.arraycopy(text.zones[zone], 0, zones[zone], 0, zones[zone].length);
            }
            for (int act = 0; act < MatrixText.ACTS; act++) {
                System.arraycopy(text.acts[act], 0, acts[act], 0, acts[act].length);
                states[act] = REST;
            }
            for (int row = 0; row < text.rowCount; row++) {
                System.arraycopy(text.rows[row], 0, rows[row], 0, rows[row].length);
            }
            rowCount = text.rowCount;
            sortActs();
        }

        private void sortActs() {
            for (int act = 0; act < byRank.length; act++) {
                int place = act;
                while (place > 0 && acts[byRank[place - 1]][MatrixText.RANK] < acts[act][MatrixText.RANK]) {
                    byRank[place] = byRank[place - 1];
                    place--;
                }
                byRank[place] = act;
            }
        }

        boolean isZone(int zone) {
            return zone >= 0 && zone < zones.length && zones[zone][MatrixText.NEEDS] != 0;
        }

        boolean isAct(int act) {
            return act >= 0 && act < acts.length && acts[act][MatrixText.IS_TOLD] != 0;
        }

        /** Of several blocks that are bound to a switch the last one counts, as it comes last. */
        void setSwitch(int to, int output) {
            int point = points - SWITCHES + to;
            if (to != NONE && point >= 0 && point < points) {
                values[point] = Math.max(0, Math.min(output, 100));
            }
        }

        private boolean isAsked(int point, int time) {
            return !isFaulty[point] && time >= disabledUntil[point];
        }

        private boolean isOn(int point, int time) {
            return values[point] >= ON_FROM && isAsked(point, time);
        }

        private int countOn(int zone, int time) {
            int on = 0;
            for (int k = 0; k < zones[zone][MatrixText.HOW_MANY]; k++) {
                on += isOn(zones[zone][MatrixText.FIRST_POINT + k], time) ? 1 : 0;
            }
            return on;
        }

        private int countAsked(int zone, int time) {
            int asked = 0;
            for (int k = 0; k < zones[zone][MatrixText.HOW_MANY]; k++) {
                asked += isAsked(zones[zone][MatrixText.FIRST_POINT + k], time) ? 1 : 0;
            }
            return asked;
        }

        /** Only points that are asked can be on, so all of them are if there are as many. */
        private boolean isSure(int on, int asked) {
            return asked > 0 && on == asked;
        }

        private void lookAtZones(int time) {
            for (int zone = 0; zone < zones.length; zone++) {
                int on = countOn(zone, time);
                isZoneOn[zone] = isZone(zone) && on >= zones[zone][MatrixText.NEEDS];
                isZoneSure[zone] = isSure(on, countAsked(zone, time));
            }
        }

        private boolean isMet(int row) {
            return isZoneOn[rows[row][0]] && (rows[row][1] == NONE || isZoneOn[rows[row][1]]);
        }

        private boolean isCalled(int act) {
            for (int row = 0; row < rowCount; row++) {
                if (rows[row][2] == act && isMet(row)) {
                    return true;
                }
            }
            return false;
        }

        private boolean isSurelyCalled(int act) {
            for (int row = 0; row < rowCount; row++) {
                boolean isSureRow = isZoneSure[rows[row][0]] || rows[row][1] != NONE && isZoneSure[rows[row][1]];
                if (rows[row][2] == act && isMet(row) && isSureRow) {
                    return true;
                }
            }
            return false;
        }

        void runActs(int time) {
            lookAtZones(time);
            for (int k = 0; k < byRank.length; k++) {
                if (isAct(byRank[k])) {
                    runAct(byRank[k], time);
                }
            }
        }

        private void runAct(int act, int time) {
            boolean called = isCalled(act);
            if (states[act] == REST && called) {
                states[act] = WAITING;
                waitsSince[act] = time;
                isLookedAt[act] = false;
                isConfirmed[act] = false;
            } else if (states[act] == WAITING && !called) {
                states[act] = REST;
            } else if (states[act] == DONE && !called && acts[act][MatrixText.LATCHES] == 0) {
                setDone(act, false, time);
            }
            if (states[act] == WAITING && isDue(act, time)) {
                setDone(act, true, time);
            }
        }

        private boolean isDue(int act, int time) {
            return isConfirmed[act] || time >= waitsSince[act] + acts[act][MatrixText.DELAY] || isSurelyCalled(act);
        }

        private void setDone(int act, boolean done, int time) {
            states[act] = done ? DONE : REST;
            int[] event = eventTable[events % MOST_EVENTS];
            event[0] = time;
            event[1] = act;
            event[2] = done ? 1 : 0;
            events++;
            if (acts[act][MatrixText.KIND] == TELEGRAM_KIND && bus.hasRoomInQueue(ALARM_STATION)) {
                bus.enqueue(ALARM_STATION, 0, act, true, 2, event[2]);
            }
            if (acts[act][MatrixText.KIND] == SET_POINT_KIND) {
                program.points[4 + act % 6] = event[2];
            }
        }

        int lookAtActs(int time) {
            int anew = 0;
            for (int act = 0; act < states.length; act++) {
                if (states[act] == WAITING && !isLookedAt[act]) {
                    isLookedAt[act] = true;
                    waitsSince[act] = time;
                    anew++;
                }
            }
            return anew;
        }

        int confirmActs() {
            int confirmed = 0;
            for (int act = 0; act < states.length; act++) {
                if (states[act] == WAITING && !isConfirmed[act]) {
                    isConfirmed[act] = true;
                    confirmed++;
                }
            }
            return confirmed;
        }

        int resetLatched(int time) {
            int rested = 0;
            lookAtZones(time);
            for (int k = 0; k < byRank.length; k++) {
                int act = byRank[k];
                if (states[act] == DONE && acts[act][MatrixText.LATCHES] != 0 && !isCalled(act)) {
                    setDone(act, false, time);
                    rested++;
                }
            }
            return rested;
        }

        boolean isKindDone(int kind) {
            for (int act = 0; act < states.length; act++) {
                if (states[act] == DONE && acts[act][MatrixText.KIND] == kind) {
                    return true;
                }
            }
            return false;
        }

        int countDone() {
            int done = 0;
            for (int act = 0; act < states.length; act++) {
                done += states[act] == DONE ? 1 : 0;
            }
            return done;
        }

        int actFact(int act, int what) {
            switch (what) {
                case 0:
                    return states[act];
                case 1:
                    return states[act] == WAITING ? waitsSince[act] : NONE;
                case 2:
                    return acts[act][MatrixText.KIND];
                case 3:
                    return acts[act][MatrixText.RANK];
                case 4:
                    return acts[act][MatrixText.DELAY];
                default:
                    return acts[act][MatrixText.LATCHES];
            }
        }

        int zoneFact(int zone, int what, int time) {
            int on = countOn(zone, time);
            switch (what) {
                case 0:
                    return on >= zones[zone][MatrixText.NEEDS] ? 1 : 0;
                case 1:
                    return isSure(on, countAsked(zone, time)) ? 1 : 0;
                case 2:
                    return zones[zone][MatrixText.NEEDS];
                default:
                    return on;
            }
        }

        int keptEvents() {
            return Math.min(events, MOST_EVENTS);
        }

        int eventFact(int k, int what) {
            return eventTable[(events - 1 - k) % MOST_EVENTS][what];
        }
    }

    /** The block program. */
    private static final class Program {
        static final int MOST_BLOCKS = 40;
        static final int POINTS = 10;
        static final int KINDS = 26;
        static final int ROW_NUMBERS = 8;
        static final int ROW = 15;
        private static final int POINT = 0;
        private static final int NUMBER = 1;
        private static final int ADD = 2;
        private static final int LESS_BY = 3;
        private static final int TIMES = 4;
        private static final int OVER = 5;
        private static final int REST = 6;
        private static final int LEAST = 7;
        private static final int GREATEST = 8;
        private static final int BELOW = 9;
        private static final int ALIKE = 10;
        private static final int BOTH = 11;
        private static final int EITHER = 12;
        private static final int NOT = 13;
        private static final int CHOICE = 14;
        private static final int DELAY = 16;
        private static final int RAMP = 17;
        private static final int COUNT = 18;
        private static final int LATCH = 19;
        private static final int CLOCK = 20;
        private static final int PULSE = 21;
        private static final int LIMIT = 22;
        private static final int HOLD = 23;
        private static final int SUM = 24;
        private static final int ZERO = 1;
        private static final int BAD = 2;
        private static final int NOTHING = 3;
        private static final int MOST_FAILURES = 20000;
        /** How many inputs, from 0 on, each kind names. */
        private static final int[] INPUTS = {0, 0, 2, 2, 2, 2, 2, 2, 2, 2, 2, 2, 2, 1, 3, 1, 1, 1, 2, 2, 0, 1, 1, 2, 2, 1};

        private int blocks;
        private final int[] kinds = new int[MOST_BLOCKS];
        private final int[] p = new int[MOST_BLOCKS];
        private final int[] q = new int[MOST_BLOCKS];
        private final int[] safes = new int[MOST_BLOCKS];
        private final int[][] inputs = new int[MOST_BLOCKS][3];
        private final int[] outputs = new int[MOST_BLOCKS];
        private final int[][] states = new int[MOST_BLOCKS][2];
        private final int[][] rowNumbers = new int[MOST_BLOCKS][ROW_NUMBERS];
        private final boolean[] isInHand = new boolean[MOST_BLOCKS];
        private final int[] handValues = new int[MOST_BLOCKS];
        private final int[] boundTo = new int[MOST_BLOCKS];
        private final int[] points = new int[POINTS];
        private boolean isSorted;
        private int ordered;
        private final int[] sequence = new int[MOST_BLOCKS];
        private final int[] placeOf = new int[MOST_BLOCKS];
        private final int[] failures = new int[4];
        private boolean isResting;
        // Why the block that is being reckoned failed, 0 if it did not.
        private int failure;

        int addBlock(int kind) {
            if (blocks >= MOST_BLOCKS) {
                return NONE;
            }
            kinds[blocks] = kind;
            Arrays.fill(inputs[blocks], NONE);
            boundTo[blocks] = NONE;
            isSorted = false;
            blocks++;
            return blocks - 1;
        }

        int setInput(int block, int input, int to) {
            int before = inputs[block][input];
            inputs[block][input] = to;
            isSorted = false;
            return before;
        }

        int blockFact(int block, int what) {
            switch (what) {
                case 0:
                    return outputs[block];
                case 1:
                    return states[block][0];
                case 2:
                    return states[block][1];
                default:
                    sortBlocks();
                    return placeOf[block];
            }
        }

        void sortBlocks() {
            if (isSorted) {
                return;
            }
            Arrays.fill(placeOf, NONE);
            ordered = 0;
            for (int k = 0; k < blocks; k++) {
                int next = leastThatMayCome();
                if (next != NONE) {
                    place(next, ordered);
                    ordered++;
                }
            }
            int behind = ordered;
            for (int block = 0; block < blocks; block++) {
                if (placeOf[block] == NONE) {
                    place(block, behind);
                    behind++;
                }
            }
            isSorted = true;
        }

        private void place(int block, int at) {
            placeOf[block] = at;
            sequence[at] = block;
        }

        private int leastThatMayCome() {
            for (int block = 0; block < blocks; block++) {
                if (placeOf[block] == NONE && mayCome(block)) {
                    return block;
                }
            }
            return NONE;
        }

        private boolean mayCome(int block) {
            if (kinds[block] == DELAY) {
                return true;
            }
            for (int input = 0; input < INPUTS[kinds[block]]; input++) {
                int from = inputs[block][input];
                if (from != NONE && placeOf[from] == NONE) {
                    return false;
                }
            }
            return true;
        }

        void reckonBlocks(int minute) {
            sortBlocks();
            if (isResting || ordered < blocks) {
                return;
            }
            for (int k = 0; k < blocks; k++) {
                reckonBlock(sequence[k], minute);
            }
            for (int block = 0; block < blocks; block++) {
                if (kinds[block] == DELAY) {
                    takeDelayed(block);
                }
            }
            isResting = failures[0] >= MOST_FAILURES;
        }

        private void reckonBlock(int block, int minute) {
            failure = 0;
            int v = reckon(block, minute);
            if (failure != 0) {
                countFailure(failure);
                v = safes[block];
            }
            outputs[block] = isInHand[block] ? handValues[block] : v;
        }

        private void countFailure(int kind) {
            failures[kind]++;
            failures[0]++;
        }

        private void takeDelayed(int block) {
            int from = inputs[block][0];
            if (from != NONE) {
                states[block][0] = outputs[from];
                return;
            }
            countFailure(NOTHING);
            if (!isInHand[block]) {
                outputs[block] = safes[block];
            }
        }

        private int fail(int kind) {
            failure = kind;
            return 0;
        }

        private int inputOf(int block, int input) {
            int from = inputs[block][input];
            return from == NONE ? 0 : outputs[from];
        }

        private boolean lacksInput(int block) {
            for (int input = 0; input < INPUTS[kinds[block]]; input++) {
                if (inputs[block][input] == NONE) {
                    return true;
                }
            }
            return false;
        }

        private int reckon(int block, int minute) {
            int kind = kinds[block];
            if (kind == DELAY) {
                return states[block][0];
            }
            if (lacksInput(block)) {
                return fail(NOTHING);
            }
            int a = inputOf(block, 0);
            int b = inputOf(block, 1);
            if (kind >= ADD && kind <= CHOICE) {
                return reckonPlain(kind, a, b, inputOf(block, 2));
            }
            if (kind == POINT) {
                int point = p[block];
                return point >= 0 && point < POINTS ? points[point] : fail(BAD);
            }
            if (kind == ROW) {
                return a >= 0 && a < ROW_NUMBERS ? rowNumbers[block][a] : fail(BAD);
            }
            return reckonKept(block, a, b, minute);
        }

        private int reckonPlain(int kind, int a, int b, int c) {
            switch (kind) {
                case ADD:
                    return a + b;
                case LESS_BY:
                    return a - b;
                case TIMES:
                    return a * b;
                case OVER:
                    return b == 0 ? fail(ZERO) : a / b;
                case REST:
                    return b == 0 ? fail(ZERO) : a - b * (a / b);
                case LEAST:
                    return Math.min(a, b);
                case GREATEST:
                    return Math.max(a, b);
                case BELOW:
                    return a < b ? 1 : 0;
                case ALIKE:
                    return a == b ? 1 : 0;
                case BOTH:
                    return a != 0 && b != 0 ? 1 : 0;
                case EITHER:
                    return a != 0 || b != 0 ? 1 : 0;
                case NOT:
                    return a == 0 ? 1 : 0;
                default:
                    return a != 0 ? b : c;
            }
        }

        private int reckonKept(int block, int a, int b, int minute) {
            switch (kinds[block]) {
                case NUMBER:
                    return p[block];
                case RAMP:
                    return ramp(outputs[block], a, p[block]);
                case COUNT:
                    return countUp(states[block], a, b);
                case LATCH:
                    return latch(states[block], a, b);
                case CLOCK:
                    return isInSpan(minute, p[block], q[block]) ? 1 : 0;
                case PULSE:
                    return pulse(states[block], a, p[block]);
                case LIMIT:
                    return limit(a, p[block], q[block]);
                case HOLD:
                    return b != 0 ? outputs[block] : a;
                case SUM:
                    states[block][0] = b != 0 ? 0 : states[block][0] + a;
                    return states[block][0];
                default:
                    return since(states[block], a, p[block]);
            }
        }

        private static int ramp(int before, int a, int p) {
            long step = Math.max(p, 0);
            long far = (long) a - before;
            if (far <= step && far >= -step) {
                return a;
            }
            return (int) (far > 0 ? before + step : before - step);
        }

        private static int countUp(int[] state, int a, int b) {
            if (b != 0) {
                state[0] = 0;
            } else if (a != 0 && state[1] == 0) {
                state[0]++;
            }
            state[1] = a;
            return state[0];
        }

        private static int latch(int[] state, int a, int b) {
            if (a != 0) {
                state[0] = 1;
            } else if (b != 0) {
                state[0] = 0;
            }
            return state[0];
        }

        private static boolean isInSpan(int minute, int p, int q) {
            return p <= q ? p <= minute && minute < q : minute >= p || minute < q;
        }

        private static int pulse(int[] state, int a, int p) {
            if (a != 0 && state[1] == 0) {
                state[0] = p;
            }
            state[1] = a;
            if (state[0] > 0) {
                state[0]--;
                return 1;
            }
            return 0;
        }

        private static int limit(int a, int p, int q) {
            if (a < p) {
                return p;
            }
            return a > q ? q : a;
        }

        private static int since(int[] state, int a, int p) {
            int next = a != 0 ? state[0] + 1 : 0;
            state[0] = Math.min(next, p);
            return state[0];
        }
    }

    /** The line, the stations that say telegrams on it, and what is heard. */
    private static final class Bus {
        static final int STATIONS = 8;
        static final int MOST_DATA = 14;
        static final int MOST_BEHIND = 2000;
        static final int MOST_DISTURBANCES = 50;
        private static final int GROUPS = 256;
        private static final int MOST_QUEUED = 6;
        private static final int MOST_BYTES = 8 + MOST_DATA;
        // A byte too many for each call could be heard if the line is disturbed; no more is kept.
        private static final int MOST_HEARD = 600;
        private static final int CHARACTER_BITS = 11;
        private static final int SPACED_BITS = 13;
        private static final int LONG_AGO = -1000;
        private static final int ANSWER_BEHIND = 14;
        private static final int WAIT_BEHIND = 28;
        private static final int GOOD_ANSWER = 204;
        private static final int BUSY_ANSWER = 192;
        private static final int WRONG_ANSWER = 12;
        // What is kept of a station, the first six as station() numbers them.
        private static final int QUEUED = 0;
        private static final int NEXT_BIT = 1;
        private static final int WAITS_UNTIL = 2;
        private static final int SAID = 3;
        private static final int LOST = 4;
        private static final int STOPPED = 5;
        private static final int ADDRESS = 6;
        private static final int IS_BUSY = 7;
        private static final int ANSWER = 8;
        private static final int ANSWER_BIT = 9;
        private static final int STATION_FIELDS = 10;
        // What is kept of a telegram in a queue.
        private static final int PRIORITY = 0;
        private static final int SENDER = 1;
        private static final int AIM = 2;
        private static final int IS_GROUP = 3;
        private static final int DATA_BYTES = 4;
        private static final int FIRST_BYTE = 5;
        private static final int TIMES_SAID = 6;
        private static final int TELEGRAM_FIELDS = 7;

        private final Program program;
        private final int[][] stationTable = new int[STATIONS][STATION_FIELDS];
        private final int[][] queues = new int[STATIONS][MOST_QUEUED * TELEGRAM_FIELDS];
        private final int[][] spoken = new int[STATIONS][MOST_BYTES];
        private final boolean[] listens = new boolean[STATIONS * GROUPS];
        private int bitTime;
        private int idle = 1000;
        // By bit time, modulo what is more than the most that one can be told ahead.
        private final boolean[] isDisturbed = new boolean[MOST_BEHIND + 1];
        private int disturbances;
        // What is being heard: the next bit of its latest character, 11 to 13 behind it; NONE if nothing is.
        private int hearing = NONE;
        private int bits;
        private boolean isBad;
        private final int[] bytes = new int[MOST_HEARD];
        private int byteCount;
        private final int[] latest = new int[MOST_HEARD];
        private int latestLength;
        private int latestEnd = LONG_AGO;
        private boolean isLatestAlone;
        private int answer = NONE;
        private final int[] counts = new int[5];

        Bus(Program program) {
            this.program = program;
            for (int station = 0; station < STATIONS; station++) {
                stationTable[station][ADDRESS] = station;
                stationTable[station][NEXT_BIT] = NONE;
                stationTable[station][WAITS_UNTIL] = NONE;
                stationTable[station][ANSWER_BIT] = NONE;
            }
        }

        int setAddress(int station, int address) {
            int before = stationTable[station][ADDRESS];
            stationTable[station][ADDRESS] = address;
            return before;
        }

        boolean setListening(int station, int group, boolean on) {
            boolean before = listens[station * GROUPS + group];
            listens[station * GROUPS + group] = on;
            return before;
        }

        boolean setBusy(int station, boolean on) {
            boolean before = stationTable[station][IS_BUSY] != 0;
            stationTable[station][IS_BUSY] = on ? 1 : 0;
            return before;
        }

        boolean hasRoomInQueue(int station) {
            return stationTable[station][QUEUED] < MOST_QUEUED;
        }

        int enqueue(int station, int priority, int aim, boolean group, int n, int b) {
            int[] own = stationTable[station];
            if (hasRoomInQueue(station)) {
                int at = own[QUEUED] * TELEGRAM_FIELDS;
                int[] queue = queues[station];
                queue[at + PRIORITY] = priority;
                queue[at + SENDER] = own[ADDRESS];
                queue[at + AIM] = aim;
                queue[at + IS_GROUP] = group ? 1 : 0;
                queue[at + DATA_BYTES] = n;
                queue[at + FIRST_BYTE] = b;
                queue[at + TIMES_SAID] = 0;
                own[QUEUED]++;
            }
            return own[QUEUED];
        }

        boolean addDisturbance(int behind) {
            int at = (bitTime + behind) % isDisturbed.length;
            if (isDisturbed[at]) {
                return false;
            }
            isDisturbed[at] = true;
            disturbances++;
            return true;
        }

        int stationFact(int station, int what) {
            int v = stationTable[station][what];
            return what == NEXT_BIT || what == WAITS_UNTIL ? (v == NONE ? 0 : 1) : v;
        }

        void runBitTime() {
            bitTime++;
            if (bitTime == latestEnd + ANSWER_BEHIND && isLatestAlone) {
                beginAnswers();
            }
            for (int station = 0; station < STATIONS; station++) {
                beginSaying(station);
            }
            int line = lineNow();
            for (int station = 0; station < STATIONS; station++) {
                goOnSaying(station, line);
                goOnAnswering(station);
            }
            hear(line);
            idle = line == 1 ? idle + 1 : 0;
            for (int station = 0; station < STATIONS; station++) {
                if (stationTable[station][WAITS_UNTIL] == bitTime) {
                    endWaiting(station);
                }
            }
        }

        private void beginAnswers() {
            boolean right = isLatestRight();
            for (int station = 0; station < STATIONS; station++) {
                int[] own = stationTable[station];
                if (isMeantFor(station) && own[NEXT_BIT] == NONE && own[WAITS_UNTIL] == NONE) {
                    int good = own[IS_BUSY] != 0 ? BUSY_ANSWER : GOOD_ANSWER;
                    own[ANSWER] = right ? good : WRONG_ANSWER;
                    own[ANSWER_BIT] = 0;
                }
            }
        }

        private int latestAim() {
            return latest[3] * 256 + latest[4];
        }

        private boolean isMeantFor(int station) {
            int aim = latestAim();
            if (latest[5] < 128) {
                return stationTable[station][ADDRESS] == aim;
            }
            return aim < GROUPS && listens[station * GROUPS + aim];
        }

        private boolean isLatestRight() {
            int check = 255;
            for (int k = 0; k < latestLength - 1; k++) {
                check = check ^ latest[k];
            }
            return latestLength == 8 + latest[5] % 128 && latest[latestLength - 1] == check;
        }

        private void beginSaying(int station) {
            int[] own = stationTable[station];
            if (own[NEXT_BIT] != NONE || own[WAITS_UNTIL] != NONE || own[QUEUED] == 0) {
                return;
            }
            int[] queue = queues[station];
            int needed = queue[PRIORITY] >= 2 && queue[TIMES_SAID] == 0 ? 53 : 50;
            if (idle >= needed) {
                own[NEXT_BIT] = 0;
                spell(queue, spoken[station]);
            }
        }

        /** The bytes of the first telegram of a queue. */
        private static void spell(int[] queue, int[] bytes) {
            int n = queue[DATA_BYTES];
            bytes[0] = 176 + 4 * queue[PRIORITY] - (queue[TIMES_SAID] > 0 ? 32 : 0);
            bytes[1] = queue[SENDER] / 256;
            bytes[2] = queue[SENDER] % 256;
            bytes[3] = queue[AIM] / 256;
            bytes[4] = queue[AIM] % 256;
            bytes[5] = (queue[IS_GROUP] != 0 ? 128 : 0) + n - 1;
            int check = 255;
            for (int k = 0; k < 6 + n && k < MOST_BYTES - 1; k++) {
                if (k >= 6) {
                    bytes[k] = (queue[FIRST_BYTE] + k - 6) % 256;
                }
                check = check ^ bytes[k];
            }
            bytes[6 + n] = check;
        }

        private int lineNow() {
            int line = 1;
            int at = bitTime % isDisturbed.length;
            if (isDisturbed[at]) {
                isDisturbed[at] = false;
                disturbances--;
                line = 0;
            }
            for (int station = 0; station < STATIONS; station++) {
                int[] own = stationTable[station];
                if (own[NEXT_BIT] != NONE && saidBit(station) == 0) {
                    line = 0;
                }
                if (own[ANSWER_BIT] != NONE && characterBit(own[ANSWER], own[ANSWER_BIT]) == 0) {
                    line = 0;
                }
            }
            return line;
        }

        private int saidBit(int station) {
            int next = stationTable[station][NEXT_BIT];
            return characterBit(spoken[station][next / SPACED_BITS], next % SPACED_BITS);
        }

        /** Bit k of a character: 0, eight bits, the parity, and then nothing but 1. */
        private static int characterBit(int v, int k) {
            if (k == 0) {
                return 0;
            }
            if (k <= 8) {
                return v >> k - 1 & 1;
            }
            return k == 9 ? Integer.bitCount(v) & 1 : 1;
        }

        private void goOnSaying(int station, int line) {
            int[] own = stationTable[station];
            if (own[NEXT_BIT] == NONE) {
                return;
            }
            if (line == 0 && saidBit(station) == 1) {
                own[NEXT_BIT] = NONE;
                own[STOPPED]++;
                return;
            }
            own[NEXT_BIT]++;
            int length = (7 + queues[station][DATA_BYTES]) * SPACED_BITS - 2;
            if (own[NEXT_BIT] >= length) {
                own[NEXT_BIT] = NONE;
                own[WAITS_UNTIL] = bitTime + WAIT_BEHIND;
                queues[station][TIMES_SAID]++;
            }
        }

        private void goOnAnswering(int station) {
            int[] own = stationTable[station];
            if (own[ANSWER_BIT] != NONE) {
                own[ANSWER_BIT] = own[ANSWER_BIT] + 1 < CHARACTER_BITS ? own[ANSWER_BIT] + 1 : NONE;
            }
        }

        private void endWaiting(int station) {
            int[] own = stationTable[station];
            own[WAITS_UNTIL] = NONE;
            if (answer == GOOD_ANSWER) {
                own[SAID]++;
                dropFirst(station);
            } else if (queues[station][TIMES_SAID] >= 4) {
                own[LOST]++;
                dropFirst(station);
            }
        }

        private void dropFirst(int station) {
            int[] queue = queues[station];
            System.arraycopy(queue, TELEGRAM_FIELDS, queue, 0, queue.length - TELEGRAM_FIELDS);
            stationTable[station][QUEUED]--;
        }

        private void hear(int line) {
            if (hearing == NONE) {
                if (line == 0) {
                    beginHearing();
                }
            } else if (hearing < CHARACTER_BITS) {
                bits = bits | line << hearing;
                hearing++;
                if (hearing == CHARACTER_BITS) {
                    takeCharacter();
                }
            } else if (hearing < SPACED_BITS) {
                if (line == 1) {
                    hearing++;
                } else {
                    complete();
                    beginHearing();
                }
            } else if (line == 1) {
                complete();
                hearing = NONE;
            } else {
                beginCharacter();
            }
        }

        private void beginHearing() {
            byteCount = 0;
            isBad = false;
            beginCharacter();
        }

        private void beginCharacter() {
            bits = 0;
            hearing = 1;
        }

        private void takeCharacter() {
            int v = bits >> 1 & 255;
            if ((bits >> 9 & 1) != (Integer.bitCount(v) & 1) || (bits >> 10 & 1) == 0 || byteCount >= MOST_HEARD) {
                isBad = true;
            }
            if (byteCount < MOST_HEARD) {
                bytes[byteCount] = v;
                byteCount++;
            }
        }

        /** What is complete ended so many bit times ago as have been heard behind its last character, and this one. */
        private void complete() {
            int end = bitTime - (hearing - CHARACTER_BITS + 1);
            if (byteCount >= 8 && !isBad) {
                takeTelegram(end);
                return;
            }
            isLatestAlone = false;
            boolean isAnswer = byteCount == 1 && !isBad && end == latestEnd + ANSWER_BEHIND + CHARACTER_BITS - 1;
            if (isAnswer) {
                answer = bytes[0];
                counts[answer == GOOD_ANSWER ? 3 : 4]++;
            } else {
                counts[2]++;
            }
        }

        private void takeTelegram(int end) {
            System.arraycopy(bytes, 0, latest, 0, byteCount);
            latestLength = byteCount;
            latestEnd = end;
            isLatestAlone = true;
            answer = NONE;
            counts[0]++;
            if (isLatestRight()) {
                counts[1]++;
                int aim = latestAim();
                if (latest[5] >= 128 && aim >= 4 && aim < Program.POINTS) {
                    program.points[aim] = latest[6];
                }
            }
        }
    }

    /** The cars, the calls for them, and the giving that was made last. */
    private static final class Lifts {
        static final int MOST_CARS = 4;
        static final int MOST_CALLS = 400;
        static final int MOST_OPEN = 6;
        private static final int STOP_SECONDS = 3;
        private static final int GREATEST_FLOOR = 59;
        // What is kept of a car.
        private static final int FLOOR = 0;
        private static final int SPEED = 1;
        private static final int FREE_FROM = 2;
        private static final int LEAST = 3;
        private static final int GREATEST = 4;
        private static final int BEGUN = 5;
        // What is kept of a call, and of it in a giving.
        private static final int FROM = 0;
        private static final int TO = 1;
        private static final int SINCE = 2;
        private static final int CAR = 0;
        private static final int PICK = 1;
        private static final int SET = 2;
        private static final int PLACE = 3;

        private int cars;
        private final int[][] carTable = new int[MOST_CARS][6];
        private int calls;
        private final int[][] callTable = new int[MOST_CALLS][3];
        private int opens;
        private final int[] openCalls = new int[MOST_OPEN];
        private final int[][] giving = new int[MOST_CALLS][4];
        // While a giving is made: sets of open calls and of cars are kept as bits.
        private int time;
        private final int[] carsFor = new int[MOST_OPEN];
        private final long[][] rowCosts = new long[MOST_CARS][1 << MOST_OPEN];
        private final int[] trialRow = new int[MOST_OPEN];
        private final int[] bestRow = new int[MOST_OPEN];
        private long bestRowCost;
        private final int[] trialShares = new int[MOST_CARS];
        private final int[] bestShares = new int[MOST_CARS];
        private long bestSum;

        int addCar(int floor, int speed) {
            if (cars >= MOST_CARS) {
                return NONE;
            }
            int[] car = carTable[cars];
            car[FLOOR] = floor;
            car[SPEED] = speed;
            car[GREATEST] = GREATEST_FLOOR;
            car[BEGUN] = NONE;
            cars++;
            return cars - 1;
        }

        void setFree(int car, int floor, int second) {
            carTable[car][FLOOR] = floor;
            carTable[car][FREE_FROM] = second;
        }

        void setSpan(int car, int least, int greatest) {
            carTable[car][LEAST] = least;
            carTable[car][GREATEST] = greatest;
        }

        int addCall(int from, int to, int second) {
            if (calls >= MOST_CALLS || opens >= MOST_OPEN) {
                return NONE;
            }
            callTable[calls][FROM] = from;
            callTable[calls][TO] = to;
            callTable[calls][SINCE] = second;
            Arrays.fill(giving[calls], NONE);
            openCalls[opens] = calls;
            opens++;
            calls++;
            return calls - 1;
        }

        boolean isOpenCall(int call) {
            return placeOfOpen(call) != NONE;
        }

        private int placeOfOpen(int call) {
            for (int k = 0; k < opens; k++) {
                if (openCalls[k] == call) {
                    return k;
                }
            }
            return NONE;
        }

        boolean setBegun(int call, int car) {
            if (car != NONE) {
                int other = carTable[car][BEGUN];
                if (!isInSpan(call, car) || other != NONE && other != call) {
                    return false;
                }
            }
            endBeginning(call);
            if (car != NONE) {
                carTable[car][BEGUN] = call;
            }
            return true;
        }

        private void endBeginning(int call) {
            for (int car = 0; car < cars; car++) {
                if (carTable[car][BEGUN] == call) {
                    carTable[car][BEGUN] = NONE;
                }
            }
        }

        private boolean isInSpan(int call, int car) {
            int from = callTable[call][FROM];
            int to = callTable[call][TO];
            return Math.min(from, to) >= carTable[car][LEAST] && Math.max(from, to) <= carTable[car][GREATEST];
        }

        void closeCall(int call) {
            endBeginning(call);
            int place = placeOfOpen(call);
            if (place != NONE) {
                System.arraycopy(openCalls, place + 1, openCalls, place, opens - place - 1);
                opens--;
            }
        }

        long makeGiving(int now, boolean isHome) {
            time = now;
            for (int call = 0; call < calls; call++) {
                Arrays.fill(giving[call], NONE);
            }
            for (int k = 0; k < opens; k++) {
                carsFor[k] = isHome ? 0 : carsThatMayTake(openCalls[k]);
            }
            for (int car = 0; car < cars; car++) {
                costRows(car);
            }
            Arrays.fill(trialShares, 0);
            bestSum = Long.MAX_VALUE;
            share(0);
            for (int car = 0; car < cars; car++) {
                keepRow(car, bestShares[car]);
            }
            return bestSum;
        }

        private int carsThatMayTake(int call) {
            int all = 0;
            int begunBy = NONE;
            for (int car = 0; car < cars; car++) {
                all = isInSpan(call, car) ? all | 1 << car : all;
                begunBy = carTable[car][BEGUN] == call ? car : begunBy;
            }
            return begunBy == NONE ? all : all & 1 << begunBy;
        }

        private void costRows(int car) {
            for (int set = 0; set < 1 << opens; set++) {
                rowCosts[car][set] = mayTakeAll(car, set) ? leastRowCost(car, set) : 0;
            }
        }

        private boolean mayTakeAll(int car, int set) {
            for (int k = 0; k < opens; k++) {
                if ((set >> k & 1) != 0 && (carsFor[k] >> car & 1) == 0) {
                    return false;
                }
            }
            return true;
        }

        private long leastRowCost(int car, int set) {
            bestRowCost = Long.MAX_VALUE;
            tryRows(car, set, 0, carTable[car][FLOOR], Math.max(0, carTable[car][FREE_FROM] - time), 0);
            return bestRowCost;
        }

        /** Rows are tried in the order of their calls' numbers, so the first one of the least cost is kept. */
        private void tryRows(int car, int left, int placed, int floor, int behind, long cost) {
            if (cost >= bestRowCost) {
                return;
            }
            if (left == 0) {
                bestRowCost = cost;
                System.arraycopy(trialRow, 0, bestRow, 0, placed);
                return;
            }
            int speed = carTable[car][SPEED];
            for (int k = 0; k < opens && placed < MOST_OPEN; k++) {
                if ((left >> k & 1) != 0 && mayComeNext(car, k, left, placed)) {
                    int[] call = callTable[openCalls[k]];
                    int pick = behind + Math.abs(floor - call[FROM]) * speed;
                    int set = pick + STOP_SECONDS + Math.abs(call[TO] - call[FROM]) * speed;
                    trialRow[placed] = k;
                    long more = cost + weightOf(call) * pick + set;
                    tryRows(car, left & ~(1 << k), placed + 1, call[TO], set + STOP_SECONDS, more);
                }
            }
        }

        private long weightOf(int[] call) {
            return 1 + (time - call[SINCE]) / 30;
        }

        /** The call that the car has begun, if it is in the row, is its first. */
        private boolean mayComeNext(int car, int k, int left, int placed) {
            int begun = placeOfOpen(carTable[car][BEGUN]);
            return placed > 0 || begun == NONE || begun == k || (left >> begun & 1) == 0;
        }

        /** Shares are tried in the order of the calls' cars, so the first one of the least sum is kept. */
        private void share(int k) {
            if (k >= opens) {
                keepShares();
                return;
            }
            if (carsFor[k] == 0) {
                share(k + 1);
                return;
            }
            for (int car = 0; car < cars; car++) {
                if ((carsFor[k] >> car & 1) != 0) {
                    trialShares[car] |= 1 << k;
                    share(k + 1);
                    trialShares[car] &= ~(1 << k);
                }
            }
        }

        private void keepShares() {
            long sum = 0;
            for (int car = 0; car < cars; car++) {
                sum += rowCosts[car][trialShares[car]];
            }
            if (sum < bestSum) {
                bestSum = sum;
                System.arraycopy(trialShares, 0, bestShares, 0, cars);
            }
        }

        private void keepRow(int car, int set) {
            leastRowCost(car, set);
            int speed = carTable[car][SPEED];
            int floor = carTable[car][FLOOR];
            int behind = Math.max(0, carTable[car][FREE_FROM] - time);
            int many = Integer.bitCount(set);
            for (int k = 0; k < many && k < MOST_OPEN; k++) {
                int number = openCalls[bestRow[k]];
                int[] call = callTable[number];
                int[] given = giving[number];
                given[CAR] = car;
                given[PICK] = behind + Math.abs(floor - call[FROM]) * speed;
                given[SET] = given[PICK] + STOP_SECONDS + Math.abs(call[TO] - call[FROM]) * speed;
                given[PLACE] = k;
                behind = given[SET] + STOP_SECONDS;
                floor = call[TO];
            }
        }
    }
}
